/** The first and the last value inside the range of each argument: the call is possible, and does what it says. */
public final class EdgesInsideTest {
    private static final int NONE = -9;
    private static final Check CHECK = new Check("EdgesInsideTest");

    private EdgesInsideTest() {
    }

    public static void main(String[] arguments) {
        time();
        roundedDown();
        promise2();
        promise3();
        promise6();
        promise9();
        promise10();
        promise11();
        promise12And13();
        promise14();
        promise15();
        promise16();
        promise17();
        promise18();
        promise19();
        promise20To23();
        promise24To26();
        CHECK.end();
    }

    private static void time() {
        CHECK.sentence("Description", "The time is told in minutes; it is 0 at first and at most 20000.");
        ParkingGarage g = new ParkingGarage();
        CHECK.due("at first", g.count(5), 0);
        for (int passed = 0; passed < 3; passed++) {
            CHECK.due("pass", g.pass(5000), 0);
        }
        CHECK.due("up to the last minute", g.pass(5000), 0);
        CHECK.due("at most", g.count(5), 20000);
        CHECK.due("a minute more", g.pass(1), -3);
        CHECK.due("at most", g.count(5), 20000);
    }

    private static void roundedDown() {
        CHECK.sentence("Description", "All numbers are whole; \"/\" is the division of numbers that are 0 or more, "
                + "rounded down.");
        ParkingGarage g = new ParkingGarage();
        g.addBay(0, 0, 0);
        g.setNumber(2, 0);
        g.setStep(0, 0, 7, 3);
        int[][] units = {{0, 0}, {1, 3}, {6, 3}, {7, 3}, {8, 6}, {13, 6}, {14, 6}, {15, 9}};
        for (int[] row : units) {
            CHECK.due("units in " + row[0], g.fee(0, row[0]), row[1]);
        }
        g.reserve(1, 0, 100, 101);
        CHECK.due("half of 3", g.cancel(0), 1);
        g.reserve(1, 0, 100, 108);
        CHECK.due("half of 6", g.cancel(1), 3);
    }

    private static void promise2() {
        CHECK.sentence("Promise 2", "Adds an open bay.");
        ParkingGarage g = new ParkingGarage();
        g.addBay(0, 0, 0);
        g.addBay(4, 99, 2);
        CHECK.due("the first is open", g.bay(0, 4), 1);
        CHECK.due("the last place is open", g.bay(1, 4), 1);
        CHECK.sentence("Promise 2", "Returns its number");
        ParkingGarage h = new ParkingGarage();
        for (int bay = 0; bay < 30; bay++) {
            CHECK.due("bay", h.addBay(bay % 5, 99 - bay, bay % 3), bay);
        }
    }

    private static void promise3() {
        CHECK.sentence("Promise 3", "`bay`: a bay");
        ParkingGarage full = Refused.FULL.make();
        CHECK.due("the first", full.setBay(0, 0), 1);
        CHECK.due("the last", full.setBay(29, 0), 1);
        CHECK.sentence("Promise 3", "`on`: 1 open, 0 closed");
        CHECK.due("the first is closed", full.bay(0, 4), 0);
        CHECK.due("the last is closed", full.bay(29, 4), 0);
        full.setBay(0, 1);
        full.setBay(29, 1);
        CHECK.due("the first is open", full.bay(0, 4), 1);
        CHECK.due("the last is open", full.bay(29, 4), 1);
    }

    private static void promise6() {
        CHECK.sentence("Promise 6", "Appends a character to the text.");
        for (int code = 0; code <= 255; code++) {
            ParkingGarage g = new ParkingGarage();
            CHECK.due("the first character " + code, g.appendCharacter(code), 1);
            CHECK.due("behind it", g.appendCharacter(code), 2);
            CHECK.due("length", g.count(11), 2);
            int want = code == ' ' ? 0 : -10;
            CHECK.due("load of it", g.load(), want);
        }
    }

    private static void promise9() {
        CHECK.sentence("Promise 9", "Makes a reservation.");
        int[][] rows = {{1, 0, 0, 1}, {999, 2, 20000, 21440}, {1, 2, 0, 1440}, {999, 0, 20000, 20001}};
        for (int[] row : rows) {
            ParkingGarage g = new ParkingGarage();
            g.addBay(4, 99, 2);
            CHECK.due("reserve", g.reserve(row[0], row[1], row[2], row[3]), 0);
            int[] properties = {row[0], 0, row[2], row[3], row[3] - row[2] > 1 ? 2000 : 0, 0};
            for (int what = 0; what <= 5; what++) {
                CHECK.due("its property " + what, g.reservation(0, what), properties[what]);
            }
            CHECK.due("no car", g.count(3), 0);
            CHECK.due("no ticket", g.count(2), 0);
        }
        CHECK.sentence("Promise 9", "Returns its number");
        ParkingGarage g = new ParkingGarage();
        g.addBay(0, 0, 0);
        for (int made = 0; made < 16; made++) {
            CHECK.due("number", g.reserve(1, 0, 1000 * made, 1000 * made + 1), made);
        }
    }

    private static void promise10() {
        Scene sixteen = new Scene(g -> g.addBay(0, 0, 0));
        for (int row = 0; row < 16; row++) {
            int begin = 1000 * row + 1;
            sixteen = sixteen.then(g -> g.reserve(1, 0, begin, begin + 61));
        }
        for (int reservation = 0; reservation < 16; reservation++) {
            CHECK.sentence("Promise 10", "Cancels an open reservation");
            ParkingGarage g = sixteen.make();
            int back = g.cancel(reservation);
            for (int other = 0; other < 16; other++) {
                CHECK.due("state", g.reservation(other, 5), other == reservation ? 3 : 0);
            }
            CHECK.sentence("Promise 10", "Returns what is paid back");
            CHECK.due("half", back, 200);
            CHECK.due("the account", g.account(1), 6400 - 200);
        }
        CHECK.sentence("Promise 10", "`reservation`: a reservation");
        CHECK.due("the first", sixteen.make().cancel(0), 200);
        CHECK.due("the last", sixteen.make().cancel(15), 200);
    }

    private static void promise11() {
        CHECK.sentence("Promise 11", "Returns the number of its ticket");
        int[][] rows = {{1, 0}, {999, 2}, {1, 2}, {999, 0}};
        for (int[] row : rows) {
            ParkingGarage g = new ParkingGarage();
            g.addBay(4, 99, 2);
            CHECK.due("enter", g.enter(row[0], row[1]), 1);
            CHECK.due("inside", g.car(row[0], 0), 1);
            CHECK.due("left", g.leave(1), 0);
            CHECK.due("enter again", g.enter(row[0], row[1]), 2);
            CHECK.due("inside again", g.car(row[0], 0), 2);
        }
    }

    private static void promise12And13() {
        for (int ticket = 1; ticket <= 30; ticket++) {
            ParkingGarage g = Refused.FULL.then(h -> h.pass(600)).make();
            int plate = 31 - ticket;
            CHECK.sentence("Promise 12", "Returns the fee");
            int fee = g.car(plate, 4);
            CHECK.due("leave", g.leave(ticket), fee);
            CHECK.due("inside", g.count(3), 29);
            CHECK.due("the car has left", g.car(plate, 0), NONE);
            CHECK.sentence("Promise 13", "Returns the fee");
            ParkingGarage lost = Refused.FULL.then(h -> h.pass(600)).make();
            int lostFee = lost.car(plate, 5);
            CHECK.due("leaveLost", lost.leaveLost(plate), lostFee);
            CHECK.due("inside", lost.count(3), 29);
            CHECK.due("its ticket has left", lost.leave(ticket), -2);
        }
        CHECK.sentence("Promise 12", "`ticket`: number of a ticket");
        CHECK.due("the first", Refused.FULL.make().leave(1), 0);
        CHECK.due("the last", Refused.FULL.make().leave(30), 0);
        CHECK.sentence("Promise 13", "`plate`: 1 to 999");
        ParkingGarage g = new ParkingGarage();
        g.addBay(0, 0, 0);
        g.addBay(0, 1, 0);
        g.enter(1, 0);
        g.enter(999, 0);
        CHECK.due("the first plate", g.leaveLost(1), 2500);
        CHECK.due("the last plate", g.leaveLost(999), 2500);
    }

    private static void promise14() {
        CHECK.sentence("Promise 14", "`minutes`: 1 to 5000");
        ParkingGarage g = new ParkingGarage();
        CHECK.due("1", g.pass(1), 0);
        CHECK.due("the time", g.count(5), 1);
        CHECK.due("5000", g.pass(5000), 0);
        CHECK.due("the time", g.count(5), 5001);
        CHECK.due("4999", g.pass(4999), 0);
        CHECK.due("the time", g.count(5), 10000);
    }

    private static void promise15() {
        CHECK.sentence("Promise 15", "Returns the number");
        CHECK.due("the first", Refused.FULL.make().count(0), 30);
        CHECK.due("the last", Refused.FULL.make().count(12), 6);
    }

    private static void promise16() {
        CHECK.sentence("Promise 16", "`bay`: a bay");
        ParkingGarage full = Refused.FULL.make();
        int[] first = {0, 0, 0, 0, 1, 1, 0};
        int[] last = {4, 29, 2, 229, 1, full.bay(29, 5), NONE};
        CHECK.holds("the last one has a car", full.bay(29, 5) > 0);
        CHECK.sentence("Promise 16", "Returns the property");
        for (int what = 0; what <= 6; what++) {
            CHECK.due("the first " + what, full.bay(0, what), first[what]);
            CHECK.due("the last " + what, full.bay(29, what), last[what]);
        }
    }

    private static void promise17() {
        CHECK.sentence("Promise 17", "`reservation`: a reservation");
        ParkingGarage full = Refused.FULL.make();
        CHECK.due("the plate of the first", full.reservation(0, 0), 1);
        CHECK.due("the plate of the last", full.reservation(15, 0), 16);
        CHECK.sentence("Promise 17", "Returns the property");
        CHECK.due("the state of the first", full.reservation(0, 5), 1);
        CHECK.due("the state of the last", full.reservation(15, 5), 1);
    }

    private static void promise18() {
        CHECK.sentence("Promise 18", "Returns the property");
        int[] plates = {1, 999};
        for (int plate : plates) {
            ParkingGarage g = new ParkingGarage();
            g.addBay(0, 0, 0);
            g.pass(9);
            g.enter(plate, 0);
            int[] properties = {1, 9, 0, NONE, 0, 2500};
            for (int what = 0; what <= 5; what++) {
                CHECK.due("car " + plate + " " + what, g.car(plate, what), properties[what]);
            }
        }
    }

    private static void promise19() {
        CHECK.sentence("Promise 19", "Returns the property");
        ParkingGarage full = Refused.FULL.make();
        int[][] rows = {{0, 0, 0, 0}, {0, 0, 1, 60}, {0, 0, 2, 200}, {0, 4, 0, 1200}, {0, 4, 1, 60}, {0, 4, 2, 5},
            {1, 0, 0, 0}, {1, 0, 1, 15}, {1, 0, 2, 300}, {1, 4, 0, 1200}, {1, 4, 1, 1}, {1, 4, 2, 5}};
        for (int[] row : rows) {
            CHECK.due("step " + row[0] + " " + row[1] + " " + row[2], full.step(row[0], row[1], row[2]), row[3]);
        }
    }

    private static void promise20To23() {
        ParkingGarage g = new ParkingGarage();
        g.addBay(0, 0, 2);
        g.addBay(4, 99, 0);
        CHECK.sentence("Promise 20", "`what`: 0 to 3, or -1 for all together");
        CHECK.due("all", g.account(-1), 0);
        CHECK.due("the last", g.account(3), 0);
        CHECK.sentence("Promise 21", "Returns the bay");
        CHECK.due("size 0", g.nearest(0), 0);
        CHECK.due("size 2", g.nearest(2), 0);
        CHECK.sentence("Promise 22", "Returns their number");
        CHECK.due("level 0, all", g.free(0, -1), 1);
        CHECK.due("level 0, size 0", g.free(0, 0), 0);
        CHECK.due("level 0, size 2", g.free(0, 2), 1);
        CHECK.due("level 4, all", g.free(4, -1), 1);
        CHECK.due("level 4, size 0", g.free(4, 0), 1);
        CHECK.due("level 4, size 2", g.free(4, 2), 0);
        CHECK.sentence("Promise 23", "Returns the money");
        CHECK.due("nothing", g.fee(0, 0), 0);
        CHECK.due("the longest", g.fee(0, 20000), 28000);
        CHECK.due("nothing over", g.fee(1, 0), 0);
        CHECK.due("the longest over", g.fee(1, 20000), 400200);
    }

    private static void promise24To26() {
        ParkingGarage g = new ParkingGarage();
        for (int bay = 0; bay < 30; bay++) {
            g.addBay(0, bay, 2);
        }
        g.enter(1, 0);
        g.enter(999, 0);
        CHECK.sentence("Promise 24", "`plate`: 1 to 999");
        CHECK.due("the first plate", g.minutesLeft(1), 10);
        CHECK.due("the last plate", g.minutesLeft(999), 10);
        CHECK.sentence("Promise 25", "Tells how many minutes a bay is not held from now on.");
        g.reserve(5, 2, 16, 17);
        CHECK.due("the first bay", g.freeFor(0), 1);
        CHECK.sentence("Promise 25", "`bay`: a bay");
        CHECK.due("the first bay", g.freeFor(0), 1);
        CHECK.due("the last bay", g.freeFor(29), NONE);
        CHECK.sentence("Promise 26", "`size`: 0 to 2");
        CHECK.due("size 0", g.earliest(0, 1), 0);
        CHECK.due("size 2", g.earliest(2, 1), 0);
        CHECK.due("1440 minutes", g.earliest(2, 1440), 0);
    }
}
