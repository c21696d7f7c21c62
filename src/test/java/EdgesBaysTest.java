/** The sentences on bays: their number, places, ways and order, and which size fits. */
public final class EdgesBaysTest {
    private static final int INVALID = -1;
    private static final int STATE = -2;
    private static final int ROOM = -3;
    private static final int NONE = -9;
    private static final Check CHECK = new Check("EdgesBaysTest");

    private EdgesBaysTest() {
    }

    public static void main(String[] arguments) {
        newObject();
        calls512();
        thirty();
        places();
        noTwoAlike();
        ways();
        shorterWay();
        smallerSize();
        smallerNumber();
        fits();
        fitsItsReservation();
        openOrClosed();
        setBayAnswers();
        CHECK.end();
    }

    private static void newObject() {
        CHECK.sentence("Promise 1", "Creates a garage without bays, cars and reservations, at the time 0, with an "
                + "empty text.");
        ParkingGarage g = new ParkingGarage();
        CHECK.due("bays", g.count(0), 0);
        CHECK.due("bay 0", g.bay(0, 0), INVALID);
        CHECK.due("cars inside", g.count(3), 0);
        CHECK.due("tickets", g.count(2), 0);
        CHECK.due("cars that have left", g.count(4), 0);
        CHECK.due("car 1", g.car(1, 0), NONE);
        CHECK.due("reservations", g.count(1), 0);
        CHECK.due("reservation 0", g.reservation(0, 0), INVALID);
        CHECK.due("the time", g.count(5), 0);
        CHECK.due("the text", g.count(11), 0);
        CHECK.due("an empty text is loaded", g.load(), 0);
        g.addBay(0, 0, 0);
        Check.type(g, "ramp 1;");
        CHECK.due("another new one", new ParkingGarage().count(0), 0);
        CHECK.due("the text of another new one", new ParkingGarage().count(11), 0);
    }

    private static void calls512() {
        CHECK.sentence("What it is", "An object is used for at most 512 calls after it has been made");
        ParkingGarage numbers = new ParkingGarage();
        for (int call = 1; call <= 510; call++) {
            CHECK.due("call " + call, numbers.setNumber(4, call), call == 1 ? 2500 : call - 1);
        }
        CHECK.due("call 511", numbers.undo(), 5);
        CHECK.due("call 512", numbers.count(10), 509);
        ParkingGarage tickets = new ParkingGarage();
        tickets.addBay(0, 0, 0);
        for (int ticket = 1; ticket <= 255; ticket++) {
            CHECK.due("enter", tickets.enter(1, 0), ticket);
            CHECK.due("leave", tickets.leave(ticket), 0);
        }
        CHECK.due("call 512", tickets.count(4), 255);
        ParkingGarage characters = new ParkingGarage();
        for (int call = 1; call <= 511; call++) {
            CHECK.due("append", characters.appendCharacter(' '), call <= 120 ? call : ROOM);
        }
        CHECK.due("call 512", characters.load(), 0);
    }

    private static void thirty() {
        CHECK.sentence("Bays", "There are at most 30 bays, numbered from 0 in the order in which they were added.");
        ParkingGarage g = new ParkingGarage();
        for (int bay = 0; bay < 30; bay++) {
            CHECK.due("added", g.addBay(4 - bay / 6, 99 - bay, bay % 3), bay);
        }
        for (int bay = 0; bay < 30; bay++) {
            CHECK.due("its position", g.bay(bay, 1), 99 - bay);
        }
        CHECK.due("the 31st", g.addBay(0, 0, 0), ROOM);
        CHECK.due("bays", g.count(0), 30);
        CHECK.due("bay 30", g.bay(30, 0), INVALID);
        CHECK.due("the 31st by a text", Check.load(g, "bay small 0 0;"), -10);
        CHECK.due("undo", g.undo(), 5);
        CHECK.due("there is no bay 29", g.bay(29, 0), INVALID);
        CHECK.due("the 30th by a text", Check.load(g, "bay small 0 0;"), 1);
        CHECK.due("it is bay 29", g.bay(29, 1), 0);
        CHECK.due("the 31st again", g.addBay(0, 1, 0), ROOM);
    }

    private static void places() {
        CHECK.sentence("Bays", "A bay has a level (0 to 4), a position (0 to 99), a size (0 small, 1 medium, 2 large), "
                + "and is open or closed");
        for (int level = -1; level <= 5; level++) {
            for (int position = -1; position <= 100; position += position % 98 <= 1 ? 1 : 16) {
                for (int size = -1; size <= 3; size++) {
                    boolean right = level >= 0 && level <= 4 && position >= 0 && position <= 99 && size >= 0
                            && size <= 2;
                    ParkingGarage g = new ParkingGarage();
                    String bay = "bay " + level + " " + position + " " + size;
                    CHECK.due(bay, g.addBay(level, position, size), right ? 0 : INVALID);
                    int[] properties = {level, position, size, 50 * level + position, 1, NONE, NONE};
                    for (int what = 0; what <= 6; what++) {
                        CHECK.due(bay + " " + what, g.bay(0, what), right ? properties[what] : INVALID);
                    }
                }
            }
        }
    }

    private static void noTwoAlike() {
        CHECK.sentence("Bays", "no two bays have the same level and position.");
        ParkingGarage g = new ParkingGarage();
        CHECK.due("the first", g.addBay(0, 0, 1), 0);
        CHECK.due("the last place", g.addBay(4, 99, 1), 1);
        for (int size = 0; size <= 2; size++) {
            CHECK.due("the same place", g.addBay(0, 0, size), STATE);
            CHECK.due("the same last place", g.addBay(4, 99, size), STATE);
        }
        CHECK.due("the same level", g.addBay(0, 99, 1), 2);
        CHECK.due("the same position", g.addBay(4, 0, 1), 3);
        CHECK.due("the same way", g.addBay(1, 49, 1), 4);
        g.setBay(0, 0);
        CHECK.due("the place of a closed one", g.addBay(0, 0, 1), STATE);
        CHECK.due("by a text", Check.load(g, "bay small 4 99;"), -10 - 12);
        CHECK.due("bays", g.count(0), 5);
    }

    private static void ways() {
        CHECK.sentence("Bays", "Its way is level * R + position, where R is the ramp, 1 to 200 (at first 50).");
        int[][] rows = {{0, 0, 0, 0, 0}, {0, 99, 99, 99, 99}, {1, 0, 1, 50, 200}, {4, 0, 4, 200, 800},
            {4, 99, 103, 299, 899}, {3, 7, 10, 157, 607}};
        ParkingGarage g = new ParkingGarage();
        for (int[] row : rows) {
            g.addBay(row[0], row[1], 0);
        }
        CHECK.due("R at first", g.count(6), 50);
        for (int bay = 0; bay < rows.length; bay++) {
            CHECK.due("way at first", g.bay(bay, 3), rows[bay][3]);
        }
        CHECK.due("R 0", g.setNumber(0, 0), INVALID);
        CHECK.due("R 1", g.setNumber(0, 1), 50);
        for (int bay = 0; bay < rows.length; bay++) {
            CHECK.due("way with R 1", g.bay(bay, 3), rows[bay][2]);
        }
        CHECK.due("R 201", g.setNumber(0, 201), INVALID);
        CHECK.due("R 200", g.setNumber(0, 200), 1);
        for (int bay = 0; bay < rows.length; bay++) {
            CHECK.due("way with R 200", g.bay(bay, 3), rows[bay][4]);
        }
    }

    /** The bay that a car is guided to, that it enters, and that is reserved for now and for later. */
    private static void first(String what, Scene scene, int size, int bay) {
        CHECK.due(what + ", nearest", scene.make().nearest(size), bay);
        ParkingGarage entered = scene.make();
        entered.enter(1, size);
        CHECK.due(what + ", entered", entered.car(1, 2), bay);
        ParkingGarage reserved = scene.make();
        reserved.reserve(1, size, 0, 10);
        CHECK.due(what + ", reserved", reserved.reservation(0, 1), bay);
        ParkingGarage later = scene.make();
        later.reserve(1, size, 2000, 2010);
        CHECK.due(what + ", reserved for later", later.reservation(0, 1), bay);
    }

    private static void shorterWay() {
        CHECK.sentence("Bays", "A bay is before another one if its way is shorter");
        for (int size = 0; size <= 2; size++) {
            int large = size;
            first("by one", new Scene(g -> g.addBay(0, 51, 0), g -> g.addBay(1, 0, large)), 0, 1);
            first("by one, the lower level", new Scene(g -> g.addBay(1, 1, 0), g -> g.addBay(0, 50, large)), 0, 1);
            first("by one, the first one", new Scene(g -> g.addBay(1, 0, large), g -> g.addBay(0, 51, 0)), 0, 0);
        }
        first("of thirty", farToNear(), 0, 29);
        first("of thirty, open", farToNear().then(g -> g.setBay(29, 0)), 0, 28);
        Scene ramp = new Scene(g -> g.addBay(1, 0, 0), g -> g.addBay(0, 49, 0));
        first("R 50", ramp, 0, 1);
        first("R 48", ramp.then(g -> g.setNumber(0, 48)), 0, 0);
        first("R 1", ramp.then(g -> g.setNumber(0, 1)), 0, 0);
        first("R 200", ramp.then(g -> g.setNumber(0, 200)), 0, 1);
    }

    private static Scene farToNear() {
        Scene scene = new Scene();
        for (int row = 0; row < 30; row++) {
            int position = 99 - row;
            scene = scene.then(g -> g.addBay(2, position, 0));
        }
        return scene;
    }

    private static void smallerSize() {
        CHECK.sentence("Bays", "if the ways are equal, if its size is smaller");
        for (int row = 0; row <= 1; row++) {
            int size = row;
            for (int other = size + 1; other <= 2; other++) {
                int larger = other;
                first("added later", new Scene(g -> g.addBay(0, 50, larger), g -> g.addBay(1, 0, size)), 0, 1);
                first("added earlier", new Scene(g -> g.addBay(0, 50, size), g -> g.addBay(1, 0, larger)), 0, 0);
                first("on the lower level", new Scene(g -> g.addBay(1, 0, larger), g -> g.addBay(0, 50, size)), 0, 1);
                first("too small", new Scene(g -> g.addBay(0, 50, larger), g -> g.addBay(1, 0, size)), larger, 0);
            }
        }
        first("of three", new Scene(g -> g.addBay(0, 98, 2), g -> g.addBay(1, 48, 0), g -> g.addBay(0, 99, 0),
                g -> g.setNumber(0, 50)), 0, 1);
    }

    private static void smallerNumber() {
        CHECK.sentence("Bays", "if these are equal, too, if its number is smaller.");
        for (int row = 0; row <= 2; row++) {
            int size = row;
            first("the upper level first", new Scene(g -> g.addBay(1, 0, size), g -> g.addBay(0, 50, size)), size, 0);
            first("the lower level first", new Scene(g -> g.addBay(0, 50, size), g -> g.addBay(1, 0, size)), size, 0);
            first("of three", new Scene(g -> g.addBay(1, 30, size), g -> g.addBay(0, 80, size),
                    g -> g.addBay(2, 0, size), g -> g.setNumber(0, 50)), size, 0);
            first("of three, with R 40", new Scene(g -> g.addBay(1, 40, size), g -> g.addBay(0, 80, size),
                    g -> g.addBay(2, 0, size), g -> g.setNumber(0, 40)), size, 0);
        }
    }

    private static void fits() {
        CHECK.sentence("Bays", "A bay fits a size if its size is not smaller.");
        for (int row = 0; row <= 2; row++) {
            int bay = row;
            Scene scene = new Scene(g -> g.addBay(0, 0, bay));
            for (int size = 0; size <= 2; size++) {
                boolean fits = size <= bay;
                String what = "a bay of " + bay + " for " + size;
                CHECK.due(what + ", nearest", scene.make().nearest(size), fits ? 0 : NONE);
                CHECK.due(what + ", enter", scene.make().enter(1, size), fits ? 1 : ROOM);
                CHECK.due(what + ", reserve", scene.make().reserve(1, size, 0, 1), fits ? 0 : ROOM);
                CHECK.due(what + ", earliest", scene.make().earliest(size, 1), fits ? 0 : NONE);
            }
        }
    }

    private static void fitsItsReservation() {
        CHECK.sentence("Tickets", "its bay fits the size of the car");
        for (int row = 0; row <= 2; row++) {
            int bay = row;
            Scene scene = new Scene(g -> g.addBay(0, 0, bay), g -> g.reserve(1, 0, 0, 100), g -> g.addBay(4, 0, 2));
            for (int size = 0; size <= 2; size++) {
                ParkingGarage g = scene.make();
                CHECK.due("enter", g.enter(1, size), 1);
                CHECK.due("its bay", g.car(1, 2), size <= bay ? 0 : 1);
                CHECK.due("its reservation", g.car(1, 3), size <= bay ? 0 : NONE);
                CHECK.due("the reservation's state", g.reservation(0, 5), size <= bay ? 1 : 0);
            }
        }
    }

    private static void openOrClosed() {
        CHECK.sentence("Promise 3", "Opens or closes a bay; a car that is in it stays.");
        Scene scene = new Scene(g -> g.addBay(0, 0, 0), g -> g.enter(1, 0), g -> g.setBay(0, 0));
        CHECK.due("closed", scene.make().bay(0, 4), 0);
        CHECK.due("its car", scene.make().bay(0, 5), 1);
        CHECK.due("the bay of the car", scene.make().car(1, 2), 0);
        CHECK.due("its ticket", scene.make().leave(1), 0);
        CHECK.due("its lost ticket", scene.make().leaveLost(1), 2500);
        CHECK.due("open again", scene.then(g -> g.setBay(0, 1)).make().bay(0, 5), 1);
        Scene left = scene.then(g -> g.leave(1));
        CHECK.due("closed still", left.make().nearest(0), NONE);
        CHECK.due("no car enters", left.make().enter(1, 0), ROOM);
        CHECK.due("none is reserved", left.make().reserve(1, 0, 5000, 5001), ROOM);
        CHECK.due("no begin", left.make().earliest(0, 1), NONE);
        CHECK.due("none is free", left.make().free(0, -1), 0);
        Scene held = new Scene(g -> g.addBay(0, 0, 0), g -> g.reserve(1, 0, 0, 50), g -> g.setBay(0, 0));
        CHECK.due("a closed one is held", held.make().bay(0, 6), 0);
        CHECK.due("its reservation stays", held.make().reservation(0, 5), 0);
    }

    private static void setBayAnswers() {
        CHECK.sentence("Promise 3", "Returns 1 if it was open, otherwise 0");
        ParkingGarage g = new ParkingGarage();
        for (int bay = 0; bay < 30; bay++) {
            g.addBay(0, bay, 0);
        }
        for (int bay = 0; bay < 30; bay += 29) {
            CHECK.due("open, to open", g.setBay(bay, 1), 1);
            CHECK.due("open, to closed", g.setBay(bay, 0), 1);
            CHECK.due("closed", g.bay(bay, 4), 0);
            CHECK.due("closed, to closed", g.setBay(bay, 0), 0);
            CHECK.due("closed, to open", g.setBay(bay, 1), 0);
            CHECK.due("open", g.bay(bay, 4), 1);
        }
        CHECK.due("the others", g.free(0, -1), 30);
    }
}
