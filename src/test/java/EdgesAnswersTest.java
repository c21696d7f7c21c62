/** The sentences on the looking calls: their least and greatest answers, and those where there is nothing. */
public final class EdgesAnswersTest {
    private static final int NONE = -9;
    private static final Check CHECK = new Check("EdgesAnswersTest");

    private EdgesAnswersTest() {
    }

    public static void main(String[] arguments) {
        constants();
        counts();
        bayWithNothing();
        firstHolder();
        reservationProperties();
        carProperties();
        steps();
        accounts();
        nearest();
        freeOfLevel();
        freeOfSize();
        feeRange();
        CHECK.end();
    }

    private static void constants() {
        CHECK.sentence("Errors", "`INVALID_ARGUMENT = -1`: An argument is out of range, or names something that does "
                + "not exist.");
        CHECK.due("INVALID_ARGUMENT", ParkingGarage.INVALID_ARGUMENT, -1);
        CHECK.due("out of range", new ParkingGarage().count(13), ParkingGarage.INVALID_ARGUMENT);
        CHECK.due("does not exist", new ParkingGarage().bay(0, 0), ParkingGarage.INVALID_ARGUMENT);
        CHECK.sentence("Errors", "`ILLEGAL_STATE = -2`: The call is not possible in the present state.");
        CHECK.due("ILLEGAL_STATE", ParkingGarage.ILLEGAL_STATE, -2);
        CHECK.due("not possible", new ParkingGarage().undo(), ParkingGarage.ILLEGAL_STATE);
        CHECK.sentence("Errors", "`CAPACITY_EXCEEDED = -3`: There is no room.");
        CHECK.due("CAPACITY_EXCEEDED", ParkingGarage.CAPACITY_EXCEEDED, -3);
        CHECK.due("no room", new ParkingGarage().enter(1, 0), ParkingGarage.CAPACITY_EXCEEDED);
        CHECK.sentence("Errors", "`NONE = -9`: There is no such value.");
        CHECK.due("NONE", ParkingGarage.NONE, -9);
        CHECK.due("no value", new ParkingGarage().nearest(0), ParkingGarage.NONE);
    }

    private static void counts() {
        CHECK.sentence("Promise 15", "`what`: 0 the number of bays, 1 of reservations, 2 of tickets so far, 3 of cars "
                + "inside, 4 of cars that have left, 5 the time, 6 to 10 the numbers of setNumber(), 11 the length of "
                + "the text, 12 the number of states that are saved for undo()");
        int[] first = {0, 0, 0, 0, 0, 0, 50, 15, 10, 2000, 2500, 0, 0};
        int[] full = {30, 16, 30, 30, 0, 0, 50, 15, 10, 2000, 2500, 120, 6};
        for (int what = 0; what <= 12; what++) {
            CHECK.due("least " + what, new ParkingGarage().count(what), first[what]);
            CHECK.due("most " + what, Refused.FULL.make().count(what), full[what]);
        }
        ParkingGarage g = Refused.FULL.make();
        for (int ticket = 1; ticket <= 30; ticket++) {
            g.leave(ticket);
            CHECK.due("inside", g.count(3), 30 - ticket);
            CHECK.due("left", g.count(4), ticket);
            CHECK.due("tickets", g.count(2), 30);
        }
        int[] greatest = {200, 120, 60, 99999, 99999};
        for (int what = 0; what <= 4; what++) {
            g.setNumber(what, greatest[what]);
            CHECK.due("number " + what, g.count(6 + what), greatest[what]);
        }
        for (int time = 5000; time <= 20000; time += 5000) {
            g.pass(5000);
            CHECK.due("the time", g.count(5), time);
        }
        CHECK.due("behind the last minute", g.pass(1), -3);
        CHECK.due("the time", g.count(5), 20000);
    }

    private static void bayWithNothing() {
        CHECK.sentence("Promise 16", "`what`: 0 its level, 1 its position, 2 its size, 3 its way, 4 1 if it is open "
                + "and 0 if not, 5 the plate of the car in it (NONE if there is none), 6 the reservation that holds "
                + "it now (the first one of several; NONE if there is none)");
        ParkingGarage g = new ParkingGarage();
        g.addBay(0, 0, 0);
        g.addBay(4, 99, 2);
        int[][] rows = {{0, 0, 0, 0, 1, NONE, NONE}, {4, 99, 2, 299, 1, NONE, NONE}};
        for (int bay = 0; bay <= 1; bay++) {
            for (int what = 0; what <= 6; what++) {
                CHECK.due("bay " + bay + " " + what, g.bay(bay, what), rows[bay][what]);
            }
        }
        g.setBay(1, 0);
        CHECK.due("closed", g.bay(1, 4), 0);
        g.enter(999, 0);
        CHECK.due("a car", g.bay(0, 5), 999);
        g.leave(1);
        CHECK.due("no car again", g.bay(0, 5), NONE);
        ParkingGarage full = Refused.FULL.make();
        for (int bay = 0; bay < 30; bay++) {
            int holder = full.bay(bay, 6);
            CHECK.due("the car of each", full.car(full.bay(bay, 5), 2), bay);
            CHECK.due("the holder of each", holder == NONE ? NONE : full.reservation(holder, 1),
                    holder == NONE ? NONE : bay);
        }
    }

    private static void firstHolder() {
        CHECK.sentence("Promise 16", "6 the reservation that holds it now (the first one of several; NONE if there is "
                + "none)");
        Scene scene = new Scene(g -> g.addBay(0, 0, 0), g -> g.setNumber(1, 0), g -> g.reserve(1, 0, 100, 110),
                g -> g.reserve(2, 0, 50, 60), g -> g.reserve(3, 0, 70, 80), g -> g.pass(55));
        CHECK.due("the only one", scene.make().bay(0, 6), 1);
        CHECK.due("two of them", scene.then(g -> g.setNumber(1, 15)).make().bay(0, 6), 1);
        CHECK.due("one minute less", scene.then(g -> g.setNumber(1, 44)).make().bay(0, 6), 1);
        CHECK.due("three of them", scene.then(g -> g.setNumber(1, 45)).make().bay(0, 6), 0);
        CHECK.due("without the first", scene.then(g -> g.setNumber(1, 45), g -> g.cancel(0)).make().bay(0, 6), 1);
        CHECK.due("without two", scene.then(g -> g.setNumber(1, 45), g -> g.cancel(0), g -> g.cancel(1)).make()
                .bay(0, 6), 2);
        CHECK.due("without all", scene.then(g -> g.setNumber(1, 45), g -> g.cancel(0), g -> g.cancel(1),
                g -> g.cancel(2)).make().bay(0, 6), NONE);
        CHECK.due("between two", scene.then(g -> g.pass(10)).make().bay(0, 6), NONE);
    }

    private static void reservationProperties() {
        CHECK.sentence("Promise 17", "`what`: 0 its plate, 1 its bay, 2 its begin, 3 its end, 4 its price, 5 its "
                + "state");
        ParkingGarage g = new ParkingGarage();
        g.addBay(0, 0, 2);
        g.addBay(0, 1, 0);
        g.reserve(999, 2, 0, 1440);
        g.reserve(1, 0, 20000, 21440);
        g.reserve(2, 0, 0, 1);
        int[][] rows = {{999, 0, 0, 1440, 2000, 0}, {1, 0, 20000, 21440, 2000, 0}, {2, 1, 0, 1, 0, 0}};
        for (int reservation = 0; reservation < rows.length; reservation++) {
            for (int what = 0; what <= 5; what++) {
                CHECK.due("reservation " + reservation + " " + what, g.reservation(reservation, what),
                        rows[reservation][what]);
            }
        }
        ParkingGarage full = Refused.FULL.make();
        int[] last = {16, full.car(16, 2), 14, 516, 1800, 1};
        for (int what = 0; what <= 5; what++) {
            CHECK.due("the sixteenth " + what, full.reservation(15, what), last[what]);
        }
    }

    private static void carProperties() {
        CHECK.sentence("Promise 18", "`what`: 0 the number, 1 the minute of entry, 2 the bay, 3 the reservation (NONE "
                + "if it has none), 4 the fee now, 5 the fee now if the ticket is lost");
        ParkingGarage g = new ParkingGarage();
        g.addBay(0, 0, 0);
        g.enter(1, 0);
        int[] row = {1, 0, 0, NONE, 0, 2500};
        for (int what = 0; what <= 5; what++) {
            CHECK.due("car 1 " + what, g.car(1, what), row[what]);
        }
        g.leave(1);
        CHECK.sentence("Promise 18", "NONE if the car is not inside.");
        for (int what = 0; what <= 5; what++) {
            CHECK.due("left " + what, g.car(1, what), NONE);
            CHECK.due("never inside " + what, g.car(999, what), NONE);
            CHECK.due("in a new garage " + what, new ParkingGarage().car(1, what), NONE);
        }
        g.reserve(2, 0, 0, 50);
        CHECK.due("with a reservation, but not inside", g.car(2, 3), NONE);
    }

    private static void steps() {
        CHECK.sentence("Promise 19", "NONE if the tariff has not so many steps.");
        for (int row = 0; row <= 1; row++) {
            int tariff = row;
            ParkingGarage full = Refused.FULL.make();
            for (int what = 0; what <= 2; what++) {
                CHECK.holds("the first", new ParkingGarage().step(tariff, 0, what) >= 0);
                CHECK.due("the second", new ParkingGarage().step(tariff, 1, what), NONE);
                CHECK.holds("the fifth", full.step(tariff, 4, what) > 0);
                CHECK.due("the sixth", full.step(tariff, 5, what), NONE);
                CHECK.due("far behind", full.step(tariff, Integer.MAX_VALUE, what), NONE);
            }
            ParkingGarage none = new ParkingGarage();
            none.setStep(tariff, 0, 0, 0);
            CHECK.due("none", none.step(tariff, 0, 0), NONE);
        }
        CHECK.sentence("Promise 19", "`index`: 0 for the first step");
        CHECK.due("the first", Refused.FULL.make().step(0, 0, 0), 0);
        CHECK.due("the second", Refused.FULL.make().step(0, 1, 0), 300);
        CHECK.due("the fifth", Refused.FULL.make().step(0, 4, 0), 1200);
        CHECK.sentence("Promise 19", "`what`: 0 its start, 1 its unit, 2 its price");
        ParkingGarage g = new ParkingGarage();
        g.setStep(1, 1440, 240, 5000);
        CHECK.due("start", g.step(1, 1, 0), 1440);
        CHECK.due("unit", g.step(1, 1, 1), 240);
        CHECK.due("price", g.step(1, 1, 2), 5000);
    }

    private static void accounts() {
        CHECK.sentence("Promise 20", "`what`: 0 to 3, or -1 for all together");
        for (int what = -1; what <= 3; what++) {
            CHECK.due("at first " + what, new ParkingGarage().account(what), 0);
        }
        ParkingGarage g = Refused.SOME.make();
        int prices = 200 + 200 + 500 + 500 + 500 - 250;
        int lost = 2500 + 900;
        int[] sums = {prices + lost, 0, prices, 0, lost};
        for (int what = -1; what <= 3; what++) {
            CHECK.due("some " + what, g.account(what), sums[what + 1]);
        }
    }

    private static void nearest() {
        CHECK.sentence("Promise 21", "Returns the bay to which a car without a reservation would be guided now.");
        Scene[] scenes = {Refused.FRESH, Refused.SOME, Refused.FULL, Refused.LAST};
        for (Scene scene : scenes) {
            for (int size = 0; size <= 2; size++) {
                ParkingGarage g = scene.make();
                int bay = g.nearest(size);
                int ticket = g.enter(500, size);
                CHECK.due("the bay entered", ticket < 0 ? NONE : g.car(500, 2), bay);
            }
        }
        int[] some = {2, 2, 2};
        for (int size = 0; size <= 2; size++) {
            CHECK.due("some", Refused.SOME.make().nearest(size), some[size]);
        }
        CHECK.sentence("Promise 21", "NONE if there is none.");
        for (int size = 0; size <= 2; size++) {
            CHECK.due("no bays", new ParkingGarage().nearest(size), NONE);
            CHECK.due("full", Refused.FULL.make().nearest(size), NONE);
            CHECK.due("closed", Refused.SOME.then(g -> g.setBay(2, 0)).make().nearest(size), NONE);
        }
        Scene held = new Scene(g -> g.addBay(0, 0, 1), g -> g.reserve(1, 0, 16, 20));
        CHECK.due("a reservation holds it in a minute", held.make().nearest(0), 0);
        CHECK.due("it is held", held.then(g -> g.pass(1)).make().nearest(0), NONE);
        CHECK.due("it is held, the last minute", held.then(g -> g.pass(19)).make().nearest(0), NONE);
        CHECK.due("it is held no more", held.then(g -> g.pass(20)).make().nearest(0), 0);
        CHECK.due("too small", held.then(g -> g.pass(20)).make().nearest(2), NONE);
    }

    private static void freeOfLevel() {
        CHECK.sentence("Promise 22", "Counts the bays of a level that are open, have no car and are not held now.");
        for (int level = 0; level <= 4; level++) {
            CHECK.due("no bays", new ParkingGarage().free(level, -1), 0);
            CHECK.due("full", Refused.FULL.make().free(level, -1), 0);
            int empty = level;
            Scene scene = new Scene();
            for (int row = 0; row < 30; row++) {
                int position = row;
                scene = scene.then(g -> g.addBay(empty, position, position % 3));
            }
            CHECK.due("thirty", scene.make().free(level, -1), 30);
            CHECK.due("another level", scene.make().free((level + 1) % 5, -1), 0);
            CHECK.due("with a car", scene.then(g -> g.enter(1, 0)).make().free(level, -1), 29);
            CHECK.due("the car has left", scene.then(g -> g.enter(1, 0), g -> g.leave(1)).make().free(level, -1), 30);
            CHECK.due("closed", scene.then(g -> g.setBay(29, 0)).make().free(level, -1), 29);
            CHECK.due("held later", scene.then(g -> g.reserve(1, 0, 16, 20)).make().free(level, -1), 30);
            CHECK.due("held now", scene.then(g -> g.reserve(1, 0, 15, 20)).make().free(level, -1), 29);
            CHECK.due("held up to now", scene.then(g -> g.reserve(1, 0, 15, 20), g -> g.pass(20)).make()
                    .free(level, -1), 30);
            CHECK.due("all at once", scene.then(g -> g.reserve(1, 0, 15, 20), g -> g.enter(1, 0), g -> g.setBay(0, 0))
                    .make().free(level, -1), 29);
        }
    }

    private static void freeOfSize() {
        CHECK.sentence("Promise 22", "`size`: 0 to 2 for bays of this size, -1 for all");
        Scene scene = new Scene(g -> g.addBay(2, 0, 0), g -> g.addBay(2, 1, 1), g -> g.addBay(2, 2, 1),
                g -> g.addBay(2, 3, 2), g -> g.addBay(2, 4, 2), g -> g.addBay(2, 5, 2));
        int[] sizes = {6, 1, 2, 3};
        for (int size = -1; size <= 2; size++) {
            CHECK.due("size " + size, scene.make().free(2, size), sizes[size + 1]);
            CHECK.due("size " + size + " elsewhere", scene.make().free(1, size), 0);
        }
        CHECK.due("a closed one of this size", scene.then(g -> g.setBay(0, 0)).make().free(2, 0), 0);
        CHECK.due("a closed one of another size", scene.then(g -> g.setBay(0, 0)).make().free(2, 1), 2);
    }

    private static void feeRange() {
        CHECK.sentence("Promise 23", "`minutes`: 0 to 20000");
        ParkingGarage g = new ParkingGarage();
        int[][] rows = {{0, 0, 0}, {1, 0, 300}, {20000, 28000, 400200}, {19999, 28000, 400200}, {-1, -1, -1},
            {20001, -1, -1}};
        for (int[] row : rows) {
            CHECK.due("normal, " + row[0], g.fee(0, row[0]), row[1]);
            CHECK.due("over, " + row[0], g.fee(1, row[0]), row[2]);
        }
        CHECK.sentence("Promise 23", "`tariff`: 0 for the fee of the normal tariff, 1 for the sum of the tariff for "
                + "overstays");
        CHECK.due("with the grace", g.fee(0, 10), 0);
        CHECK.due("without a grace", g.fee(1, 10), 300);
        CHECK.due("at most X", g.fee(0, 1440), 2000);
        CHECK.due("without X", g.fee(1, 1440), 28800);
    }
}
