/** The sentences on tickets: the bay that a car enters, the numbers of tickets, and how cars leave. */
public final class EdgesTicketsTest {
    private static final int INVALID = -1;
    private static final int STATE = -2;
    private static final int ROOM = -3;
    private static final int NONE = -9;
    private static final Check CHECK = new Check("EdgesTicketsTest");

    private EdgesTicketsTest() {
    }

    public static void main(String[] arguments) {
        holdsNow();
        firstOfSeveral();
        noOtherIsLookedAt();
        openWithoutCar();
        otherwise();
        heldByNone();
        notOpenOnes();
        numberedFromOne();
        ticket();
        leaves();
        ticketsOfUndo();
        CHECK.end();
    }

    /** Enters, and compares the bay and the reservation of the car's ticket. */
    private static void enters(String what, Scene scene, int plate, int size, int bay, int reservation) {
        ParkingGarage g = scene.make();
        int ticket = g.count(2) + 1;
        CHECK.due(what, g.enter(plate, size), ticket);
        CHECK.due(what + ", its bay", g.car(plate, 2), bay);
        CHECK.due(what + ", the bay's car", g.bay(bay, 5), plate);
        CHECK.due(what + ", its reservation", g.car(plate, 3), reservation);
        for (int other = 0; other < g.count(1); other++) {
            int before = scene.make().reservation(other, 5);
            CHECK.due(what + ", state of " + other, g.reservation(other, 5), other == reservation ? 1 : before);
        }
    }

    private static void refused(String what, Scene scene, int plate, int size) {
        CHECK.due(what, scene.make().enter(plate, size), ROOM);
    }

    /** A near bay that is free, so that the reserved one, a far one, is seen to be taken for its own sake. */
    private static Scene farBay(int begin, int end) {
        return new Scene(g -> g.addBay(4, 99, 1), g -> g.reserve(7, 0, begin, end), g -> g.addBay(0, 0, 1));
    }

    private static void holdsNow() {
        CHECK.sentence("Tickets", "if there is an open reservation of its plate that holds its bay now");
        for (int row : new int[] {0, 1, 15, 120}) {
            int holding = row;
            Scene scene = farBay(200, 260).then(g -> g.setNumber(1, holding));
            int ahead = 200 - holding - 1;
            enters("the minute ahead", scene.then(g -> g.pass(ahead)), 7, 1, 1, NONE);
            enters("the first minute", scene.then(g -> g.pass(ahead + 1)), 7, 1, 0, 0);
            enters("at its begin", scene.then(g -> g.pass(200)), 7, 1, 0, 0);
            enters("the last minute", scene.then(g -> g.pass(259)), 7, 1, 0, 0);
            enters("at its end", scene.then(g -> g.pass(260)), 7, 1, 1, NONE);
            enters("another plate", scene.then(g -> g.pass(200)), 8, 1, 1, NONE);
        }
        enters("for the first minute", farBay(0, 1), 7, 0, 0, 0);
        Scene last = farBay(20000, 20001).then(g -> g.pass(5000), g -> g.pass(5000), g -> g.pass(5000),
                g -> g.pass(5000));
        enters("in the last minute", last, 7, 0, 0, 0);
    }

    private static void firstOfSeveral() {
        CHECK.sentence("Tickets", "(the first one of several; no other one is looked at)");
        Scene two = new Scene(g -> g.addBay(0, 0, 1), g -> g.reserve(7, 0, 10, 100), g -> g.addBay(0, 1, 1),
                g -> g.reserve(7, 0, 5, 100), g -> g.addBay(0, 2, 1));
        enters("the first one made", two, 7, 0, 0, 0);
        enters("not the nearest bay", new Scene(g -> g.addBay(0, 9, 1), g -> g.reserve(7, 0, 10, 100),
                g -> g.addBay(0, 1, 1), g -> g.reserve(7, 0, 5, 100)), 7, 0, 0, 0);
        enters("the first one that holds now", two.then(g -> g.setNumber(1, 5)), 7, 0, 1, 1);
        enters("the first one of its plate", new Scene(g -> g.addBay(0, 0, 1), g -> g.reserve(8, 0, 0, 100),
                g -> g.addBay(0, 1, 1), g -> g.reserve(7, 0, 0, 100)), 7, 0, 1, 1);
        enters("the first one that is open", two.then(g -> g.cancel(0)), 7, 0, 1, 1);
        enters("the first one is done", two.then(g -> g.enter(7, 0), g -> g.leave(1)), 7, 0, 1, 1);
        enters("both are done", two.then(g -> g.enter(7, 0), g -> g.leave(1), g -> g.enter(7, 0), g -> g.leave(2)),
                7, 0, 0, NONE);
        Scene many = new Scene();
        for (int row = 0; row < 16; row++) {
            int bay = row;
            many = many.then(g -> g.addBay(0, bay, 0), g -> g.reserve(bay + 1, 0, 0, 100));
        }
        enters("the sixteenth", many, 16, 0, 15, 15);
    }

    private static void noOtherIsLookedAt() {
        CHECK.sentence("Tickets", "(the first one of several; no other one is looked at)");
        Scene two = new Scene(g -> g.addBay(0, 0, 0), g -> g.reserve(7, 0, 0, 100), g -> g.addBay(0, 1, 1),
                g -> g.reserve(7, 0, 0, 100));
        refused("the first one's bay is closed", two.then(g -> g.setBay(0, 0)), 7, 0);
        refused("the first one's bay is too small", two, 7, 1);
        Scene third = two.then(g -> g.addBay(4, 0, 2));
        enters("closed, so the third bay", third.then(g -> g.setBay(0, 0)), 7, 0, 2, NONE);
        enters("too small, so the third bay", third, 7, 1, 2, NONE);
        Scene car = new Scene(g -> g.addBay(0, 0, 0), g -> g.enter(9, 0), g -> g.reserve(7, 0, 16, 100),
                g -> g.addBay(0, 1, 0), g -> g.reserve(7, 0, 16, 100), g -> g.pass(1));
        CHECK.due("the second one's bay", car.make().reservation(1, 1), 1);
        refused("the first one's bay has a car", car, 7, 0);
        enters("so the third bay", car.then(g -> g.addBay(4, 0, 2)), 7, 0, 2, NONE);
        enters("until the car has left", car.then(g -> g.leave(1)), 7, 0, 0, 0);
    }

    private static void openWithoutCar() {
        CHECK.sentence("Tickets", "is open and has no car, it is this bay, and the reservation is used.");
        Scene scene = farBay(0, 100);
        enters("open", scene, 7, 1, 0, 0);
        enters("closed", scene.then(g -> g.setBay(0, 0)), 7, 1, 1, NONE);
        enters("open again", scene.then(g -> g.setBay(0, 0), g -> g.setBay(0, 1)), 7, 1, 0, 0);
        Scene car = new Scene(g -> g.addBay(0, 0, 0), g -> g.enter(9, 0), g -> g.reserve(7, 0, 16, 100),
                g -> g.addBay(0, 1, 0), g -> g.pass(16));
        enters("with a car", car, 7, 0, 1, NONE);
        enters("without it", car.then(g -> g.leave(1)), 7, 0, 0, 0);
    }

    private static void otherwise() {
        CHECK.sentence("Tickets", "Otherwise it is the first bay that is open, fits the size, has no car and is not "
                + "held now by any reservation; (a reservation is not used then).");
        Scene scene = new Scene(g -> g.addBay(0, 2, 2), g -> g.addBay(0, 1, 1), g -> g.addBay(0, 0, 0));
        for (int size = 0; size <= 2; size++) {
            enters("size " + size, scene, 7, size, 2 - size, NONE);
        }
        enters("closed", scene.then(g -> g.setBay(2, 0)), 7, 0, 1, NONE);
        enters("with a car", scene.then(g -> g.enter(8, 0)), 7, 0, 1, NONE);
        enters("held", scene.then(g -> g.reserve(8, 0, 15, 20)), 7, 0, 1, NONE);
        enters("held in a minute", scene.then(g -> g.reserve(8, 0, 16, 20)), 7, 0, 2, NONE);
        enters("all three", scene.then(g -> g.setBay(2, 0), g -> g.enter(8, 0)), 7, 0, 0, NONE);
        refused("none is open", scene.then(g -> g.setBay(0, 0), g -> g.setBay(1, 0), g -> g.setBay(2, 0)), 7, 0);
        refused("none fits", scene.then(g -> g.setBay(0, 0)), 7, 2);
        refused("all have cars", scene.then(g -> g.enter(1, 0), g -> g.enter(2, 0), g -> g.enter(3, 0)), 7, 0);
        refused("no bays", new Scene(), 7, 0);
        Scene own = new Scene(g -> g.addBay(0, 0, 0), g -> g.reserve(7, 0, 100, 200));
        enters("its own reservation holds later", own, 7, 0, 0, NONE);
    }

    private static void heldByNone() {
        CHECK.sentence("Tickets", "is not held now by any reservation");
        Scene scene = new Scene(g -> g.addBay(0, 0, 2), g -> g.reserve(8, 0, 50, 60), g -> g.addBay(0, 1, 2),
                g -> g.reserve(8, 0, 50, 60));
        refused("both are held", scene.then(g -> g.pass(35)), 7, 0);
        enters("the minute ahead", scene.then(g -> g.pass(34)), 7, 0, 0, NONE);
        refused("the last minute", scene.then(g -> g.pass(59)), 7, 0);
        enters("at the end", scene.then(g -> g.pass(60)), 7, 0, 0, NONE);
        Scene used = new Scene(g -> g.addBay(0, 0, 2), g -> g.reserve(8, 0, 0, 60), g -> g.enter(8, 0));
        refused("with the car that has it", used, 7, 0);
        refused("with the car that stays", used.then(g -> g.pass(60)), 7, 0);
        enters("the car has left", used.then(g -> g.leave(1)), 7, 0, 0, NONE);
        Scene second = new Scene(g -> g.addBay(0, 0, 0), g -> g.reserve(7, 0, 0, 60), g -> g.addBay(0, 1, 2),
                g -> g.reserve(7, 0, 0, 60));
        refused("held by its own second one", second, 7, 2);
    }

    private static void notOpenOnes() {
        CHECK.sentence("Tickets", "(a reservation is not used then)");
        Scene scene = farBay(50, 60);
        enters("canceled", scene.then(g -> g.pass(50), g -> g.cancel(0)), 7, 0, 1, NONE);
        enters("expired", scene.then(g -> g.pass(60)), 7, 0, 1, NONE);
        enters("done", scene.then(g -> g.pass(50), g -> g.enter(7, 0), g -> g.leave(1)), 7, 0, 1, NONE);
        ParkingGarage g = scene.make();
        g.enter(7, 0);
        g.pass(55);
        CHECK.due("it stays open while the car is elsewhere", g.reservation(0, 5), 0);
        CHECK.due("the fee is that of the normal tariff", g.leave(1), 200);
        CHECK.due("still open", g.reservation(0, 5), 0);
        CHECK.due("now it is used", g.enter(7, 0), 2);
        CHECK.due("used", g.reservation(0, 5), 1);
    }

    private static void numberedFromOne() {
        CHECK.sentence("Tickets", "Tickets are numbered from 1.");
        ParkingGarage g = new ParkingGarage();
        g.addBay(0, 0, 0);
        CHECK.due("ticket 0", g.leave(0), INVALID);
        CHECK.due("ticket 1, ahead of it", g.leave(1), INVALID);
        CHECK.due("the first", g.enter(5, 0), 1);
        CHECK.due("a refused one", g.enter(6, 0), ROOM);
        CHECK.due("a refused one", g.enter(5, 0), STATE);
        CHECK.due("a refused one", g.enter(0, 0), INVALID);
        CHECK.due("tickets so far", g.count(2), 1);
        CHECK.due("ticket 0", g.leave(0), INVALID);
        CHECK.due("ticket 2, ahead of it", g.leave(2), INVALID);
        CHECK.due("leave", g.leave(1), 0);
        CHECK.due("the second, of the same car", g.enter(5, 0), 2);
        CHECK.due("the first one has left", g.leave(1), STATE);
        CHECK.due("leave", g.leaveLost(5), 2500);
        CHECK.due("the third", g.enter(6, 0), 3);
        CHECK.due("tickets so far", g.count(2), 3);
        ParkingGarage full = Refused.FULL.make();
        CHECK.due("the thirtieth", full.car(1, 0), 30);
        CHECK.due("its leave", full.leave(30), 0);
        CHECK.due("the 31st", full.leave(31), INVALID);
    }

    private static void ticket() {
        CHECK.sentence("Tickets", "A ticket has a plate, the minute of entry, a bay, and perhaps a reservation.");
        Scene scene = new Scene(g -> g.addBay(0, 0, 0), g -> g.addBay(0, 1, 2), g -> g.reserve(999, 1, 0, 30),
                g -> g.enter(1, 0), g -> g.pass(29), g -> g.enter(999, 1));
        int[][] rows = {{1, 1, 0, 0, NONE, 200, 2700}, {999, 2, 29, 1, 0, 0, 2700}};
        for (int[] row : rows) {
            for (int what = 0; what <= 5; what++) {
                CHECK.due("car " + row[0] + " " + what, scene.make().car(row[0], what), row[what + 1]);
            }
        }
        ParkingGarage last = Refused.LAST.make();
        last.leave(1);
        last.enter(3, 0);
        CHECK.due("the last minute of entry", last.car(3, 1), 20000);
        CHECK.due("its fee", last.car(3, 4), 0);
    }

    private static void leaves() {
        CHECK.sentence("Promise 12", "Lets a car leave with its ticket; its fee is paid, and its reservation, if "
                + "there is one, is done.");
        Scene scene = new Scene(g -> g.addBay(0, 0, 0), g -> g.addBay(0, 1, 0), g -> g.reserve(1, 0, 0, 20),
                g -> g.enter(1, 0), g -> g.enter(2, 0), g -> g.pass(21));
        ParkingGarage g = scene.make();
        CHECK.due("an overstay", g.leave(1), 300);
        CHECK.due("its account", g.account(2), 300);
        CHECK.due("done", g.reservation(0, 5), 2);
        CHECK.due("its bay", g.bay(0, 5), NONE);
        CHECK.due("not inside", g.car(1, 0), NONE);
        CHECK.due("inside", g.count(3), 1);
        CHECK.due("the other one", g.leave(2), 200);
        CHECK.due("its account", g.account(0), 200);
        CHECK.due("the last car has left", g.count(3), 0);
        CHECK.due("cars that have left", g.count(4), 2);
        CHECK.sentence("Promise 13", "Lets a car leave whose ticket is lost; the fee for a lost ticket is paid, and "
                + "its reservation, if there is one, is done.");
        ParkingGarage lost = scene.make();
        CHECK.due("with a reservation", lost.leaveLost(1), 2700);
        CHECK.due("done", lost.reservation(0, 5), 2);
        CHECK.due("no overstay", lost.account(2), 0);
        CHECK.due("without", lost.leaveLost(2), 2700);
        CHECK.due("no fee of a ticket", lost.account(0), 0);
        CHECK.due("as a whole", lost.account(3), 5400);
        CHECK.due("its ticket has left", lost.leave(1), STATE);
        CHECK.due("again", lost.leaveLost(1), STATE);
    }

    private static void ticketsOfUndo() {
        CHECK.sentence("Promise 12", "INVALID_ARGUMENT if there never was such a ticket");
        ParkingGarage g = new ParkingGarage();
        g.addBay(0, 0, 0);
        g.enter(1, 0);
        g.leave(1);
        g.undo();
        CHECK.due("it is inside again", g.leave(1), 0);
        g.undo();
        g.undo();
        CHECK.due("it never was", g.leave(1), INVALID);
        CHECK.due("the number is free again", g.enter(2, 0), 1);
        CHECK.due("of another car", g.car(2, 0), 1);
    }
}
