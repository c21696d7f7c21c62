/** Promises 15 to 23: count, bay, reservation, car, step, account, nearest, free, fee. */
public final class LookingTest {
    private static final Check CHECK = new Check("LookingTest");

    private LookingTest() {
    }

    public static void main(String[] arguments) {
        promise15Count();
        promise16Bay();
        promise16Holder();
        promise17Reservation();
        promise18Car();
        promise19Step();
        promise20Account();
        promise21Nearest();
        promise22Free();
        promise23Fee();
        promise23Steps();
        lookingSavesNothing();
        CHECK.end();
    }

    private static void promise15Count() {
        ParkingGarage g = new ParkingGarage();
        g.addBay(0, 0, 0);
        g.addBay(0, 1, 0);
        g.addBay(0, 2, 0);
        g.enter(1, 0);
        g.enter(2, 0);
        g.enter(3, 0);
        g.pass(77);
        g.leave(2);
        g.leaveLost(1);
        g.reserve(4, 0, 77, 78);
        g.cancel(0);
        Check.type(g, "abcd");
        int[] counts = {3, 1, 3, 1, 2, 77, 50, 15, 10, 2000, 2500, 4, 6};
        for (int what = 0; what < counts.length; what++) {
            CHECK.due("count(" + what + ")", g.count(what), counts[what]);
        }
        int[] wrong = {-1, 13, -9, Integer.MAX_VALUE, Integer.MIN_VALUE};
        for (int what : wrong) {
            CHECK.due("count(" + what + ")", g.count(what), -1);
        }
    }

    private static void promise16Bay() {
        ParkingGarage g = new ParkingGarage();
        g.addBay(3, 42, 1);
        g.addBay(2, 7, 2);
        g.setBay(1, 0);
        g.enter(888, 0);
        int[][] bays = {{3, 42, 1, 192, 1, 888, -9}, {2, 7, 2, 107, 0, -9, -9}};
        for (int bay = 0; bay <= 1; bay++) {
            for (int what = 0; what <= 6; what++) {
                CHECK.due("bay(" + bay + ", " + what + ")", g.bay(bay, what), bays[bay][what]);
            }
            CHECK.due("what 7", g.bay(bay, 7), -1);
            CHECK.due("what -1", g.bay(bay, -1), -1);
        }
        g.setNumber(0, 200);
        CHECK.due("its way with another ramp", g.bay(0, 3), 642);
        int[] wrong = {-1, 2, 29, 30, Integer.MAX_VALUE, Integer.MIN_VALUE};
        for (int bay : wrong) {
            CHECK.due("bay(" + bay + ", 0)", g.bay(bay, 0), -1);
            CHECK.due("bay(" + bay + ", 5)", g.bay(bay, 5), -1);
        }
    }

    private static void promise16Holder() {
        ParkingGarage g = new ParkingGarage();
        g.addBay(0, 0, 0);
        g.reserve(1, 0, 100, 150);
        g.reserve(1, 0, 40, 80);
        g.pass(24);
        CHECK.due("not yet", g.bay(0, 6), -9);
        g.pass(1);
        CHECK.due("from H ahead on", g.bay(0, 6), 1);
        g.setNumber(1, 76);
        CHECK.due("the first one of several", g.bay(0, 6), 0);
        g.setNumber(1, 14);
        CHECK.due("with the holding time as it is now", g.bay(0, 6), -9);
        g.setNumber(1, 0);
        g.pass(15);
        CHECK.due("at its begin", g.bay(0, 6), 1);
        g.pass(39);
        CHECK.due("up to its end", g.bay(0, 6), 1);
        g.pass(1);
        CHECK.due("not at its end", g.bay(0, 6), -9);
        g.pass(20);
        g.enter(1, 0);
        CHECK.due("used", g.bay(0, 6), 0);
        g.pass(49);
        CHECK.due("used, up to its end", g.bay(0, 6), 0);
        g.pass(1);
        CHECK.due("not at its end, though its car stays", g.bay(0, 6), -9);
        CHECK.due("its car", g.bay(0, 5), 1);
    }

    private static void promise17Reservation() {
        ParkingGarage g = new ParkingGarage();
        CHECK.due("none yet", g.reservation(0, 0), -1);
        g.addBay(0, 0, 0);
        g.addBay(0, 1, 1);
        g.reserve(3, 0, 30, 40);
        g.reserve(77, 1, 20, 140);
        int[][] rows = {{3, 0, 30, 40, 0, 0}, {77, 1, 20, 140, 400, 0}};
        for (int reservation = 0; reservation <= 1; reservation++) {
            for (int what = 0; what <= 5; what++) {
                CHECK.due("reservation(" + reservation + ", " + what + ")",
                        g.reservation(reservation, what), rows[reservation][what]);
            }
        }
        int[][] wrong = {{-1, 0}, {2, 0}, {15, 5}, {16, 0}, {0, -1}, {0, 6}, {Integer.MAX_VALUE, 0},
            {Integer.MIN_VALUE, 0}, {0, Integer.MAX_VALUE}};
        for (int[] row : wrong) {
            CHECK.due("reservation(" + row[0] + ", " + row[1] + ")", g.reservation(row[0], row[1]), -1);
        }
    }

    private static void promise18Car() {
        ParkingGarage g = new ParkingGarage();
        g.addBay(0, 0, 0);
        g.addBay(0, 1, 1);
        g.addBay(0, 2, 2);
        g.reserve(9, 1, 10, 50);
        g.enter(1, 0);
        g.pass(9);
        g.enter(9, 1);
        g.enter(999, 0);
        g.pass(100);
        int[][] rows = {{1, 1, 0, 0, -9, 400, 2900}, {9, 2, 9, 1, 0, 1200, 2900}, {999, 3, 9, 2, -9, 400, 2900}};
        for (int[] row : rows) {
            for (int what = 0; what <= 5; what++) {
                CHECK.due("car(" + row[0] + ", " + what + ")", g.car(row[0], what), row[what + 1]);
            }
        }
        for (int what = 0; what <= 5; what++) {
            CHECK.due("not inside", g.car(2, what), -9);
        }
        int[][] wrong = {{0, 0}, {1000, 0}, {-1, 0}, {1, -1}, {1, 6}, {2, 6}, {2, -1}, {Integer.MAX_VALUE, 0},
            {1, Integer.MIN_VALUE}};
        for (int[] row : wrong) {
            CHECK.due("car(" + row[0] + ", " + row[1] + ")", g.car(row[0], row[1]), -1);
        }
        g.leave(1);
        CHECK.due("left", g.car(1, 0), -9);
    }

    private static void promise19Step() {
        ParkingGarage g = new ParkingGarage();
        g.setStep(1, 10, 20, 30);
        int[][] rows = {{0, 0, 0, 0}, {0, 0, 1, 60}, {0, 0, 2, 200}, {1, 0, 0, 0}, {1, 0, 1, 15}, {1, 0, 2, 300},
            {1, 1, 0, 10}, {1, 1, 1, 20}, {1, 1, 2, 30}, {0, 1, 0, -9}, {1, 2, 2, -9}, {1, 5, 0, -9},
            {1, Integer.MAX_VALUE, 0, -9}, {-1, 0, 0, -1}, {2, 0, 0, -1}, {0, -1, 0, -1}, {0, 0, -1, -1},
            {0, 0, 3, -1}, {0, 9, 3, -1}, {0, 9, -1, -1}, {2, 9, 0, -1}, {0, Integer.MIN_VALUE, 0, -1}};
        for (int[] row : rows) {
            CHECK.due("step(" + row[0] + ", " + row[1] + ", " + row[2] + ")", g.step(row[0], row[1], row[2]), row[3]);
        }
    }

    private static void promise20Account() {
        ParkingGarage g = new ParkingGarage();
        g.setNumber(3, 99999);
        for (int bay = 0; bay < 4; bay++) {
            g.addBay(0, bay, 0);
        }
        g.reserve(1, 0, 0, 20);
        g.reserve(2, 0, 600, 900);
        g.enter(1, 0);
        g.enter(3, 0);
        g.enter(4, 0);
        g.cancel(1);
        g.pass(70);
        g.leave(1);
        g.leave(2);
        g.leaveLost(4);
        int[] sums = {200 + 500 + 1200 + 400 + 2900, 400, 200 + 500, 1200, 2900};
        sums[0] = sums[1] + sums[2] + sums[3] + sums[4];
        for (int what = -1; what <= 3; what++) {
            CHECK.due("account(" + what + ")", g.account(what), sums[what + 1]);
        }
        int[] wrong = {-2, 4, Integer.MAX_VALUE, Integer.MIN_VALUE};
        for (int what : wrong) {
            CHECK.due("account(" + what + ")", g.account(what), -1);
        }
    }

    private static void promise21Nearest() {
        ParkingGarage g = new ParkingGarage();
        CHECK.due("no bays", g.nearest(0), -9);
        CHECK.due("nearest(-1)", g.nearest(-1), -1);
        CHECK.due("nearest(3)", g.nearest(3), -1);
        CHECK.due("nearest far", g.nearest(Integer.MAX_VALUE), -1);
        g.addBay(2, 0, 1);
        g.addBay(1, 50, 1);
        CHECK.due("equal ways and sizes, the smaller number", g.nearest(0), 0);
        g.addBay(0, 99, 2);
        CHECK.due("a shorter way, though greater", g.nearest(0), 2);
        g.setNumber(0, 49);
        CHECK.due("with another ramp", g.nearest(0), 0);
        g.setNumber(0, 50);
        g.addBay(1, 49, 0);
        CHECK.due("equal ways, the smaller size", g.nearest(0), 3);
        CHECK.due("that fits", g.nearest(1), 2);
        g.enter(1, 2);
        CHECK.due("without a car", g.nearest(2), -9);
        CHECK.due("the next", g.nearest(1), 0);
        g.setBay(0, 0);
        CHECK.due("open", g.nearest(1), 1);
        CHECK.due("a bay with a car is reserved for later", g.reserve(2, 1, 20, 30), 0);
        CHECK.due("the next", g.reserve(2, 1, 20, 30), 1);
        CHECK.due("held later", g.nearest(1), 1);
        g.pass(5);
        CHECK.due("held now", g.nearest(1), -9);
        CHECK.due("held by none", g.nearest(0), 3);
        g.reserve(3, 0, 20, 30);
        CHECK.due("none", g.nearest(0), -9);
    }

    private static void promise22Free() {
        ParkingGarage g = new ParkingGarage();
        CHECK.due("no bays", g.free(0, -1), 0);
        for (int position = 0; position < 6; position++) {
            g.addBay(1, position, position % 3);
            g.addBay(4, position, 2);
        }
        int[] counts = {6, 2, 2, 2};
        for (int size = -1; size <= 2; size++) {
            CHECK.due("free(1, " + size + ")", g.free(1, size), counts[size + 1]);
        }
        CHECK.due("another level", g.free(4, 2), 6);
        CHECK.due("of another size", g.free(4, 1), 0);
        CHECK.due("a level without bays", g.free(0, -1), 0);
        g.setBay(0, 0);
        CHECK.due("closed", g.free(1, 0), 1);
        g.enter(1, 0);
        CHECK.due("with a car", g.free(1, 1), 1);
        g.reserve(2, 2, 16, 20);
        CHECK.due("held later", g.free(1, 2), 2);
        g.pass(1);
        CHECK.due("held now", g.free(1, 2), 1);
        CHECK.due("all", g.free(1, -1), 3);
        g.pass(19);
        CHECK.due("not held any more", g.free(1, -1), 4);
        int[][] wrong = {{-1, 0}, {5, 0}, {0, -2}, {0, 3}, {Integer.MAX_VALUE, 0}, {0, Integer.MIN_VALUE}};
        for (int[] row : wrong) {
            CHECK.due("free(" + row[0] + ", " + row[1] + ")", g.free(row[0], row[1]), -1);
        }
    }

    private static void promise23Fee() {
        ParkingGarage g = new ParkingGarage();
        int[][] rows = {{0, 0, 0}, {0, 10, 0}, {0, 11, 200}, {0, 60, 200}, {0, 61, 400}, {0, 600, 2000}, {0, 601, 2000},
            {0, 1440, 2000}, {0, 1441, 4000}, {0, 2880, 4000}, {0, 2881, 6000}, {0, 20000, 28000},
            {1, 0, 0}, {1, 1, 300}, {1, 15, 300}, {1, 16, 600}, {1, 20000, 1334 * 300},
            {-1, 5, -1}, {2, 5, -1}, {0, -1, -1}, {1, -1, -1}, {0, 20001, -1}, {1, 20001, -1},
            {Integer.MAX_VALUE, 5, -1}, {0, Integer.MAX_VALUE, -1}, {0, Integer.MIN_VALUE, -1}};
        for (int[] row : rows) {
            CHECK.due("fee(" + row[0] + ", " + row[1] + ")", g.fee(row[0], row[1]), row[2]);
        }
        g.setNumber(2, 60);
        CHECK.due("another grace", g.fee(0, 60), 0);
        CHECK.due("behind it, from the first minute on", g.fee(0, 61), 400);
        CHECK.due("no grace for an overstay", g.fee(1, 60), 1200);
        g.setNumber(2, 0);
        CHECK.due("no grace", g.fee(0, 1), 200);
        g.setNumber(3, 150);
        CHECK.due("at most X", g.fee(0, 1), 150);
        CHECK.due("at most X a day", g.fee(0, 20000), 14 * 150);
        CHECK.due("not for an overstay", g.fee(1, 20000), 1334 * 300);
        g.setStep(1, 0, 1, 5000);
        CHECK.due("the dearest", g.fee(1, 20000), 100000000);
        g.setNumber(3, 0);
        CHECK.due("nothing a day", g.fee(0, 20000), 0);
    }

    private static void promise23Steps() {
        ParkingGarage g = new ParkingGarage();
        g.setStep(1, 0, 0, 0);
        g.setStep(1, 10, 7, 100);
        g.setStep(1, 30, 240, 10000 / 2);
        g.setStep(1, 1440, 1, 1);
        int[][] rows = {{0, 0}, {10, 0}, {11, 100}, {17, 100}, {18, 200}, {24, 200}, {25, 300}, {30, 300}, {31, 5300},
            {270, 5300}, {271, 10300}, {1440, 30300}, {1441, 30301}, {1442, 30302}, {20000, 30300 + 18560}};
        for (int[] row : rows) {
            CHECK.due("fee(1, " + row[0] + ")", g.fee(1, row[0]), row[1]);
        }
    }

    private static void lookingSavesNothing() {
        ParkingGarage g = new ParkingGarage();
        g.addBay(0, 0, 0);
        g.enter(1, 0);
        String before = Check.look(g);
        g.nearest(0);
        g.free(0, 0);
        g.fee(0, 100);
        g.minutesLeft(1);
        g.freeFor(0);
        g.earliest(0, 1);
        CHECK.holds("nothing changes", before.equals(Check.look(g)));
        CHECK.due("nothing is saved", g.count(12), 2);
    }
}
