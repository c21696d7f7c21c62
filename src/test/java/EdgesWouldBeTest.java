/** The sentences on what would be: the minutes at a fee, the minutes until a bay is held, and the earliest begin. */
public final class EdgesWouldBeTest {
    private static final int ROOM = -3;
    private static final int NONE = -9;
    private static final Check CHECK = new Check("EdgesWouldBeTest");

    private EdgesWouldBeTest() {
    }

    public static void main(String[] arguments) {
        feeIsNotGreater();
        zeroTo1440();
        behindTheLastMinute();
        upToTheEndOfAReservation();
        notInside();
        minutesUntilHeld();
        carsPlayNoPart();
        noneWill();
        fromTheTimeOn();
        timeAnd1440();
        atMost20000();
        minutesAsked();
        gaps();
        oneAfterAnother();
        noBegin();
        asReserve();
        CHECK.end();
    }

    private static ParkingGarage at(int minute, Scene scene) {
        ParkingGarage g = scene.make();
        for (int left = minute - g.count(5); left > 0; left -= 5000) {
            g.pass(Math.min(left, 5000));
        }
        return g;
    }

    private static Scene inside() {
        return new Scene(g -> g.addBay(0, 0, 0), g -> g.enter(1, 0));
    }

    private static void feeIsNotGreater() {
        CHECK.sentence("Promise 24", "Tells for how many more minutes the fee of a car that is inside is not greater "
                + "than now");
        int[][] rows = {{0, 10}, {1, 9}, {9, 1}, {10, 0}, {11, 49}, {59, 1}, {60, 0}, {61, 59}, {540, 0}, {541, 899},
            {600, 840}, {1439, 1}, {1440, 0}, {1441, 1439}, {2880, 0}, {2881, 1439}};
        for (int[] row : rows) {
            ParkingGarage g = at(row[0], inside());
            CHECK.due("at " + row[0], g.minutesLeft(1), row[1]);
            int fee = g.car(1, 4);
            if (row[1] > 0) {
                g.pass(row[1]);
            }
            CHECK.due("the last of these minutes", g.car(1, 4), fee);
            g.pass(1);
            CHECK.holds("the minute behind them", g.car(1, 4) > fee);
        }
        Scene longGrace = inside().then(g -> g.setNumber(2, 60));
        CHECK.due("the longest grace", longGrace.make().minutesLeft(1), 60);
        CHECK.due("its last minute", at(60, longGrace).minutesLeft(1), 0);
        CHECK.due("without a grace", inside().then(g -> g.setNumber(2, 0)).make().minutesLeft(1), 0);
        Scene cheaper = inside().then(g -> g.setNumber(2, 0), g -> g.setStep(0, 0, 60, 0),
                g -> g.setStep(0, 90, 240, 1));
        CHECK.due("up to a step's start", cheaper.make().minutesLeft(1), 90);
        CHECK.due("behind it", at(91, cheaper).minutesLeft(1), 239);
    }

    private static void zeroTo1440() {
        CHECK.sentence("Promise 24", "Returns the greatest number of minutes, 0 to 1440, such that it is not greater "
                + "at any minute up to then");
        Scene scene = inside().then(g -> g.setStep(0, 0, 0, 0), g -> g.setStep(0, 1440, 240, 100));
        CHECK.due("1440 just", scene.make().minutesLeft(1), 1440);
        CHECK.due("1439", at(1, scene).minutesLeft(1), 1439);
        CHECK.due("0", at(1440, scene).minutesLeft(1), 0);
        CHECK.due("never", inside().then(g -> g.setStep(0, 0, 0, 0)).make().minutesLeft(1), 1440);
        CHECK.due("nothing a day", inside().then(g -> g.setNumber(3, 0)).make().minutesLeft(1), 1440);
        Scene later = inside().then(g -> g.setNumber(2, 0), g -> g.setStep(0, 0, 0, 0), g -> g.setStep(0, 1440, 1, 1),
                g -> g.setNumber(3, 1));
        CHECK.due("X a day, 1440", at(1441, later).minutesLeft(1), 0);
        CHECK.due("X a day, behind", at(1442, later).minutesLeft(1), 1438);
    }

    private static void behindTheLastMinute() {
        CHECK.sentence("Promise 24", "(minutes behind 20000 count, too)");
        CHECK.due("entered at the last minute", at(20000, new Scene(g -> g.addBay(0, 0, 0))).minutesLeft(1), NONE);
        ParkingGarage late = at(20000, new Scene(g -> g.addBay(0, 0, 0)));
        late.enter(1, 0);
        CHECK.due("the grace", late.minutesLeft(1), 10);
        late.setNumber(2, 60);
        CHECK.due("the longest grace", late.minutesLeft(1), 60);
        late.setStep(0, 0, 0, 0);
        CHECK.due("never", late.minutesLeft(1), 1440);
        CHECK.due("the day's end", at(20000, inside()).minutesLeft(1), 160);
        ParkingGarage g = at(19999, new Scene(h -> h.addBay(0, 0, 0)));
        g.enter(1, 0);
        CHECK.due("the minute ahead", g.minutesLeft(1), 10);
        ParkingGarage reserved = at(20000, new Scene(h -> h.addBay(0, 0, 0), h -> h.reserve(1, 0, 20000, 21440)));
        reserved.enter(1, 0);
        CHECK.due("up to its end", reserved.minutesLeft(1), 1440);
        ParkingGarage shorter = at(20000, new Scene(h -> h.addBay(0, 0, 0), h -> h.reserve(1, 0, 20000, 21439)));
        shorter.enter(1, 0);
        CHECK.due("up to a nearer end", shorter.minutesLeft(1), 1439);
    }

    private static void upToTheEndOfAReservation() {
        CHECK.sentence("Promise 24", "Tells for how many more minutes the fee of a car that is inside is not greater "
                + "than now");
        Scene scene = new Scene(g -> g.addBay(0, 0, 0), g -> g.reserve(1, 0, 10, 100), g -> g.enter(1, 0));
        int[][] rows = {{0, 100}, {1, 99}, {99, 1}, {100, 0}, {101, 14}, {114, 1}, {115, 0}, {116, 14}};
        for (int[] row : rows) {
            CHECK.due("at " + row[0], at(row[0], scene).minutesLeft(1), row[1]);
        }
        Scene free = scene.then(g -> g.setStep(1, 0, 0, 0));
        CHECK.due("overstays are free", free.make().minutesLeft(1), 1440);
        CHECK.due("behind its end, too", at(100, free).minutesLeft(1), 1440);
        CHECK.due("X plays no part", at(100, scene.then(g -> g.setNumber(3, 0))).minutesLeft(1), 0);
        CHECK.due("the grace plays no part", at(100, scene.then(g -> g.setNumber(2, 60))).minutesLeft(1), 0);
        Scene longest = new Scene(g -> g.addBay(0, 0, 0), g -> g.reserve(1, 0, 1, 1441), g -> g.enter(1, 0));
        CHECK.due("an end behind 1440", longest.make().minutesLeft(1), 1440);
        CHECK.due("an end at 1440", at(1, longest).minutesLeft(1), 1440);
        CHECK.due("an end ahead of 1440", at(2, longest).minutesLeft(1), 1439);
    }

    private static void notInside() {
        CHECK.sentence("Promise 24", "NONE if the car is not inside.");
        CHECK.due("never inside", new ParkingGarage().minutesLeft(1), NONE);
        CHECK.due("the last plate", new ParkingGarage().minutesLeft(999), NONE);
        CHECK.due("left", inside().then(g -> g.leave(1)).make().minutesLeft(1), NONE);
        CHECK.due("another one", inside().make().minutesLeft(2), NONE);
        CHECK.due("reserved", new Scene(g -> g.addBay(0, 0, 0), g -> g.reserve(1, 0, 0, 9)).make().minutesLeft(1),
                NONE);
    }

    private static void minutesUntilHeld() {
        CHECK.sentence("Promise 25", "Returns 0 if it is held now, otherwise the number of minutes until a "
                + "reservation begins to hold it");
        Scene scene = new Scene(g -> g.addBay(0, 0, 0), g -> g.reserve(1, 0, 500, 600), g -> g.reserve(1, 0, 100, 200),
                g -> g.reserve(1, 0, 300, 301));
        int[][] rows = {{0, 85}, {84, 1}, {85, 0}, {100, 0}, {199, 0}, {200, 85}, {284, 1}, {285, 0}, {300, 0},
                {301, 184}, {484, 1}, {485, 0}, {599, 0}, {600, NONE}};
        for (int[] row : rows) {
            CHECK.due("at " + row[0], at(row[0], scene).freeFor(0), row[1]);
        }
        CHECK.due("H 0", scene.then(g -> g.setNumber(1, 0)).make().freeFor(0), 100);
        CHECK.due("H 99", scene.then(g -> g.setNumber(1, 99)).make().freeFor(0), 1);
        CHECK.due("H 100", scene.then(g -> g.setNumber(1, 100)).make().freeFor(0), 0);
        CHECK.due("H 120", scene.then(g -> g.setNumber(1, 120)).make().freeFor(0), 0);
        Scene far = new Scene(g -> g.addBay(0, 0, 0), g -> g.setNumber(1, 0), g -> g.reserve(1, 0, 20000, 20001));
        CHECK.due("the farthest", far.make().freeFor(0), 20000);
        CHECK.due("in the last minute", at(20000, far).freeFor(0), 0);
        CHECK.due("ahead of it", at(19999, far).freeFor(0), 1);
    }

    private static void carsPlayNoPart() {
        CHECK.sentence("Promise 25", "(Cars, and whether it is open, play no part.)");
        Scene scene = new Scene(g -> g.addBay(0, 0, 0), g -> g.enter(2, 0), g -> g.reserve(1, 0, 100, 200),
                g -> g.setBay(0, 0));
        CHECK.due("a car, and closed", scene.make().freeFor(0), 85);
        CHECK.due("held", at(85, scene).freeFor(0), 0);
        CHECK.due("the car has left", scene.then(g -> g.leave(1)).make().freeFor(0), 85);
        CHECK.due("open", scene.then(g -> g.setBay(0, 1)).make().freeFor(0), 85);
        CHECK.due("a car alone", inside().make().freeFor(0), NONE);
        CHECK.due("closed alone", inside().then(g -> g.setBay(0, 0)).make().freeFor(0), NONE);
    }

    private static void noneWill() {
        CHECK.sentence("Promise 25", "NONE if none will.");
        Scene scene = new Scene(g -> g.addBay(0, 0, 0), g -> g.addBay(0, 1, 0), g -> g.reserve(1, 0, 10, 50));
        CHECK.due("another bay", scene.make().freeFor(1), NONE);
        CHECK.due("canceled", scene.then(g -> g.cancel(0)).make().freeFor(0), NONE);
        CHECK.due("done", scene.then(g -> g.enter(1, 0), g -> g.leave(1)).make().freeFor(0), NONE);
        CHECK.due("used, the last minute", at(49, scene.then(g -> g.enter(1, 0))).freeFor(0), 0);
        CHECK.due("used, at its end", at(50, scene.then(g -> g.enter(1, 0))).freeFor(0), NONE);
        CHECK.due("expired", at(50, scene).freeFor(0), NONE);
        for (int bay = 0; bay < 30; bay++) {
            CHECK.due("full", Refused.FULL.make().freeFor(bay), Refused.FULL.make().bay(bay, 6) == NONE ? NONE : 0);
        }
    }

    private static void fromTheTimeOn() {
        CHECK.sentence("Promise 26", "Finds the earliest begin, from the time on, with which reserve() would be "
                + "possible for a size and a number of minutes now.");
        Scene scene = new Scene(g -> g.addBay(0, 0, 1));
        for (int minute : new int[] {0, 1, 15, 5000, 19999, 20000}) {
            CHECK.due("at " + minute, at(minute, scene).earliest(0, 1), minute);
            CHECK.due("the longest at " + minute, at(minute, scene).earliest(1, 1440), minute);
        }
        Scene car = scene.then(g -> g.enter(1, 0));
        for (int row : new int[] {0, 1, 15, 120}) {
            int holding = row;
            Scene holds = car.then(g -> g.setNumber(1, holding));
            CHECK.due("with a car, H " + holding, holds.make().earliest(0, 60), holding + 1);
            CHECK.due("with a car at 7, H " + holding, at(7, holds).earliest(0, 60), holding + 8);
        }
        Scene reserved = scene.then(g -> g.reserve(1, 0, 0, 100), g -> g.setNumber(1, 20));
        CHECK.due("behind a reservation", reserved.make().earliest(0, 1), 120);
        CHECK.due("behind it, at its last minute", at(99, reserved).earliest(0, 1), 120);
        CHECK.due("at its end", at(100, reserved).earliest(0, 1), 100);
    }

    private static void timeAnd1440() {
        CHECK.sentence("Promise 26", "Returns the begin, at most the time + 1440 and at most 20000 (the end can be "
                + "greater)");
        for (int row : new int[] {0, 1, 700}) {
            int time = row;
            Scene scene = new Scene(g -> g.addBay(0, 0, 1), g -> g.setNumber(1, 0), g -> g.pass(time));
            CHECK.due("1439 later", scene.then(g -> g.reserve(1, 0, time, time + 1439)).make().earliest(0, 1440),
                    time + 1439);
            CHECK.due("1440 later", scene.then(g -> g.reserve(1, 0, time, time + 1440)).make().earliest(0, 1440),
                    time + 1440);
            Scene behind = scene.then(g -> g.reserve(1, 0, time, time + 1440), g -> g.setNumber(1, 1));
            CHECK.due("1441 later", behind.make().earliest(0, 1), NONE);
            CHECK.due("it would be possible", behind.make().reserve(1, 0, time + 1441, time + 1442), 1);
            CHECK.due("not earlier", behind.make().reserve(1, 0, time + 1440, time + 1441), ROOM);
            CHECK.due("a minute later", behind.then(g -> g.pass(1)).make().earliest(0, 1), time + 1441);
        }
    }

    private static void atMost20000() {
        CHECK.sentence("Promise 26", "Returns the begin, at most the time + 1440 and at most 20000 (the end can be "
                + "greater)");
        Scene scene = new Scene(g -> g.addBay(0, 0, 1), g -> g.setNumber(1, 0), g -> g.pass(5000), g -> g.pass(5000),
                g -> g.pass(5000), g -> g.pass(4990));
        CHECK.due("19999", scene.then(g -> g.reserve(1, 0, 19990, 19999)).make().earliest(0, 1440), 19999);
        CHECK.due("20000", scene.then(g -> g.reserve(1, 0, 19990, 20000)).make().earliest(0, 1440), 20000);
        CHECK.due("20001", scene.then(g -> g.reserve(1, 0, 19990, 20001)).make().earliest(0, 1), NONE);
        CHECK.due("the last minute", scene.then(g -> g.pass(10)).make().earliest(0, 1440), 20000);
        CHECK.due("held in the last minute", Refused.LAST.make().earliest(2, 1), NONE);
        Scene car = scene.then(g -> g.enter(1, 0));
        CHECK.due("a car ahead of it", car.then(g -> g.setNumber(1, 9)).make().earliest(0, 1), 20000);
        CHECK.due("a car too late", car.then(g -> g.setNumber(1, 10)).make().earliest(0, 1), NONE);
        CHECK.due("a car in the last minute", car.then(g -> g.pass(10)).make().earliest(0, 1), NONE);
    }

    private static void minutesAsked() {
        CHECK.sentence("Promise 26", "`minutes`: 1 to 1440");
        Scene scene = new Scene(g -> g.addBay(0, 0, 1), g -> g.setNumber(1, 0), g -> g.reserve(1, 0, 1440, 1441));
        CHECK.due("0", scene.make().earliest(0, 0), -1);
        CHECK.due("1", scene.make().earliest(0, 1), 0);
        CHECK.due("1440, up to the reservation", scene.make().earliest(0, 1440), 0);
        CHECK.due("1441", scene.make().earliest(0, 1441), -1);
        CHECK.due("1439 a minute later", at(1, scene).earliest(0, 1439), 1);
        CHECK.due("1440 a minute later", at(1, scene).earliest(0, 1440), 1441);
    }

    private static void gaps() {
        CHECK.sentence("Promise 26", "Finds the earliest begin, from the time on, with which reserve() would be "
                + "possible for a size and a number of minutes now.");
        for (int row : new int[] {0, 15, 60, 99}) {
            int holding = row;
            Scene scene = new Scene(g -> g.addBay(0, 0, 1), g -> g.setNumber(1, holding),
                    g -> g.reserve(1, 0, 800, 900), g -> g.reserve(1, 0, 300, 400));
            CHECK.due("ahead of both, just", scene.make().earliest(0, 300 - holding), 0);
            CHECK.due("between them", scene.make().earliest(0, 301 - holding), 400 + holding);
            CHECK.due("between them, just", scene.make().earliest(0, 400 - 2 * holding), 400 + holding);
            CHECK.due("behind both", scene.make().earliest(0, 401 - 2 * holding), 900 + holding);
            CHECK.due("the longest", scene.make().earliest(0, 1440), 900 + holding);
        }
        Scene two = new Scene(g -> g.addBay(0, 0, 0), g -> g.addBay(4, 99, 2), g -> g.reserve(1, 0, 0, 200),
                g -> g.reserve(1, 2, 0, 100));
        CHECK.due("the bay that is free first", two.make().earliest(0, 1), 115);
        CHECK.due("of this size", two.then(g -> g.setBay(1, 0)).make().earliest(0, 1), 215);
        CHECK.due("that fits", two.make().earliest(1, 1), 115);
        CHECK.due("that is open", two.then(g -> g.setBay(1, 0)).make().earliest(2, 1), NONE);
    }

    /** Fifteen reservations side by side, made from the last one to the first. */
    private static void oneAfterAnother() {
        CHECK.sentence("Promise 26", "NONE if there is none, or there are 16 reservations.");
        Scene scene = new Scene(g -> g.addBay(0, 0, 1), g -> g.setNumber(1, 10));
        for (int row = 14; row >= 0; row--) {
            int begin = 30 * row;
            scene = scene.then(g -> g.reserve(1, 0, begin, begin + 20));
        }
        Scene fifteen = scene;
        CHECK.due("reservations", fifteen.make().count(1), 15);
        CHECK.due("behind all of them", fifteen.make().earliest(0, 1), 450);
        CHECK.due("in the place of the eighth", fifteen.then(g -> g.cancel(7)).make().earliest(0, 20), 210);
        CHECK.due("too short a place", fifteen.then(g -> g.cancel(7)).make().earliest(0, 21), 450);
        CHECK.due("the sixteenth", fifteen.then(g -> g.reserve(1, 0, 450, 451)).make().count(1), 16);
        CHECK.due("no room for a 17th", fifteen.then(g -> g.reserve(1, 0, 450, 451)).make().earliest(0, 1), NONE);
    }

    private static void noBegin() {
        CHECK.sentence("Promise 26", "NONE if there is none, or there are 16 reservations.");
        CHECK.due("no bays", new ParkingGarage().earliest(0, 1), NONE);
        CHECK.due("too small", new Scene(g -> g.addBay(0, 0, 1)).make().earliest(2, 1), NONE);
        CHECK.due("closed", new Scene(g -> g.addBay(0, 0, 1), g -> g.setBay(0, 0)).make().earliest(0, 1), NONE);
        CHECK.due("full", Refused.FULL.make().earliest(0, 1), NONE);
        Scene sixteen = new Scene(g -> g.addBay(0, 0, 0));
        for (int row = 0; row < 16; row++) {
            int made = row;
            sixteen = sixteen.then(g -> g.reserve(1, 0, 0, 1), g -> g.cancel(made));
        }
        CHECK.due("sixteen that are canceled", sixteen.make().count(1), 16);
        CHECK.due("no begin", sixteen.make().earliest(0, 1), NONE);
        CHECK.due("none is left, but one undone", sixteen.then(ParkingGarage::undo, ParkingGarage::undo).make()
                .earliest(0, 1), 0);
    }

    /** The begin that is told can be reserved, and no earlier one can. */
    private static void asReserve() {
        CHECK.sentence("Promise 26", "Finds the earliest begin, from the time on, with which reserve() would be "
                + "possible for a size and a number of minutes now.");
        for (Scene scene : new Scene[] {Refused.SOME, Refused.SOME.then(g -> g.setNumber(1, 120)),
            Refused.SOME.then(g -> g.setNumber(1, 0), g -> g.setBay(2, 0))}) {
            for (int row = 0; row <= 2; row++) {
                int size = row;
                for (int minutes : new int[] {1, 60, 300, 1440}) {
                    int begin = scene.make().earliest(size, minutes);
                    if (begin != NONE) {
                        CHECK.due("possible", scene.make().reserve(9, size, begin, begin + minutes), 5);
                    }
                    for (int early = 230; early < (begin == NONE ? 1671 : begin); early += 7) {
                        CHECK.due("earlier", scene.make().reserve(9, size, early, early + minutes), ROOM);
                    }
                }
            }
        }
    }
}
