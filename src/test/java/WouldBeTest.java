import java.util.Random;

/** Promises 24 to 26: minutesLeft, freeFor, earliest. */
public final class WouldBeTest {
    private static final int TRIES_OF_ONE = 400;
    private static final Check CHECK = new Check("WouldBeTest");

    private WouldBeTest() {
    }

    public static void main(String[] arguments) {
        promise24MinutesLeft();
        promise24Reservation();
        promise24Long();
        promise25FreeFor();
        promise26Earliest();
        promise26Car();
        promise26Reach();
        promise26Gaps();
        promise26LikeReserve();
        CHECK.end();
    }

    private static void promise24MinutesLeft() {
        ParkingGarage g = new ParkingGarage();
        g.addBay(0, 0, 0);
        CHECK.due("minutesLeft(0)", g.minutesLeft(0), -1);
        CHECK.due("minutesLeft(1000)", g.minutesLeft(1000), -1);
        CHECK.due("minutesLeft far below", g.minutesLeft(Integer.MIN_VALUE), -1);
        CHECK.due("not inside", g.minutesLeft(1), -9);
        g.enter(1, 0);
        CHECK.due("the grace", g.minutesLeft(1), 10);
        g.pass(10);
        CHECK.due("its last minute", g.minutesLeft(1), 0);
        g.pass(1);
        CHECK.due("the unit", g.minutesLeft(1), 49);
        g.pass(49);
        CHECK.due("its last minute", g.minutesLeft(1), 0);
        g.pass(541);
        CHECK.due("at most X up to the end of the day", g.minutesLeft(1), 839);
        g.leave(1);
        CHECK.due("left", g.minutesLeft(1), -9);
    }

    private static void promise24Reservation() {
        ParkingGarage g = new ParkingGarage();
        g.addBay(0, 0, 0);
        g.reserve(1, 0, 10, 100);
        g.enter(1, 0);
        CHECK.due("up to the end", g.minutesLeft(1), 100);
        g.pass(100);
        CHECK.due("at the end", g.minutesLeft(1), 0);
        g.pass(1);
        CHECK.due("the first unit behind it", g.minutesLeft(1), 14);
        g.setStep(1, 5, 240, 1);
        CHECK.due("a step behind it", g.minutesLeft(1), 4);
        g.pass(5);
        CHECK.due("its unit", g.minutesLeft(1), 239);
    }

    private static void promise24Long() {
        ParkingGarage g = new ParkingGarage();
        g.addBay(0, 0, 0);
        g.setStep(0, 0, 0, 0);
        g.setStep(0, 1440, 240, 100);
        g.enter(1, 0);
        CHECK.due("1440 exactly", g.minutesLeft(1), 1440);
        g.pass(1);
        CHECK.due("1439", g.minutesLeft(1), 1439);
        g.setStep(0, 1440, 0, 0);
        CHECK.due("at most 1440", g.minutesLeft(1), 1440);
        g.setStep(0, 0, 60, 200);
        g.pass(5000);
        g.pass(5000);
        g.pass(5000);
        g.pass(4990);
        CHECK.due("behind 20000", g.minutesLeft(1), 20160 - 19991);
        g.setNumber(3, 0);
        CHECK.due("far behind 20000", g.minutesLeft(1), 1440);
    }

    private static void promise25FreeFor() {
        ParkingGarage g = new ParkingGarage();
        CHECK.due("no bay", g.freeFor(0), -1);
        g.addBay(0, 0, 0);
        g.addBay(0, 1, 0);
        CHECK.due("freeFor(-1)", g.freeFor(-1), -1);
        CHECK.due("freeFor(2)", g.freeFor(2), -1);
        CHECK.due("freeFor far", g.freeFor(Integer.MAX_VALUE), -1);
        CHECK.due("none will", g.freeFor(0), -9);
        g.reserve(1, 0, 500, 600);
        g.reserve(2, 0, 100, 200);
        CHECK.due("the nearest one, though made later", g.freeFor(0), 85);
        CHECK.due("the other bay", g.freeFor(1), -9);
        g.enter(3, 0);
        g.setBay(0, 0);
        CHECK.due("cars and doors play no part", g.freeFor(0), 85);
        g.setNumber(1, 0);
        CHECK.due("with the holding time as it is now", g.freeFor(0), 100);
        g.setNumber(1, 99);
        CHECK.due("in a minute", g.freeFor(0), 1);
        g.setNumber(1, 100);
        CHECK.due("now", g.freeFor(0), 0);
        g.pass(199);
        CHECK.due("up to its end", g.freeFor(0), 0);
        g.setNumber(1, 15);
        CHECK.due("expired", g.pass(1), 1);
        CHECK.due("the other one", g.freeFor(0), 285);
        g.cancel(0);
        CHECK.due("a canceled one will not", g.freeFor(0), -9);

        ParkingGarage h = new ParkingGarage();
        h.addBay(0, 0, 0);
        h.reserve(1, 0, 10, 20);
        h.enter(1, 0);
        CHECK.due("used", h.freeFor(0), 0);
        h.pass(20);
        CHECK.due("used, behind its end", h.freeFor(0), -9);
        h.leave(1);
        h.reserve(1, 0, 20000, 20001);
        CHECK.due("far away", h.freeFor(0), 20000 - 15 - 20);
    }

    private static void promise26Earliest() {
        ParkingGarage g = new ParkingGarage();
        CHECK.due("no bays", g.earliest(0, 1), -9);
        int[][] wrong = {{-1, 1}, {3, 1}, {0, 0}, {0, -1}, {0, 1441}, {Integer.MAX_VALUE, 1}, {0, Integer.MAX_VALUE},
            {0, Integer.MIN_VALUE}};
        for (int[] row : wrong) {
            CHECK.due("earliest(" + row[0] + ", " + row[1] + ")", g.earliest(row[0], row[1]), -1);
        }
        g.addBay(0, 0, 1);
        CHECK.due("at once", g.earliest(1, 1440), 0);
        CHECK.due("none fits", g.earliest(2, 1), -9);
        g.setBay(0, 0);
        CHECK.due("closed", g.earliest(1, 1), -9);
        g.setBay(0, 1);
        g.pass(7);
        CHECK.due("from the time on", g.earliest(0, 1), 7);
        for (int made = 0; made < 16; made++) {
            CHECK.due("at once, with " + made, g.earliest(0, 1), made == 0 ? 7 : 8 + (made - 1) * 16 + 15);
            g.reserve(1, 0, g.earliest(0, 1), g.earliest(0, 1) + 1);
        }
        CHECK.due("sixteen", g.count(1), 16);
        CHECK.due("no room", g.earliest(0, 1), -9);
        CHECK.due("invalid, and no room", g.earliest(0, 0), -1);
    }

    private static void promise26Car() {
        ParkingGarage g = new ParkingGarage();
        g.addBay(0, 0, 1);
        g.enter(1, 0);
        CHECK.due("a car is there: behind the holding time", g.earliest(0, 60), 16);
        g.setNumber(1, 0);
        CHECK.due("with none", g.earliest(0, 60), 1);
        g.setNumber(1, 120);
        CHECK.due("with the longest", g.earliest(0, 60), 121);
        g.addBay(4, 99, 2);
        CHECK.due("another bay", g.earliest(0, 60), 0);
    }

    private static void promise26Reach() {
        ParkingGarage g = new ParkingGarage();
        g.addBay(0, 0, 1);
        g.reserve(1, 0, 0, 1425);
        CHECK.due("at most the time and 1440", g.earliest(0, 60), 1440);
        g.setNumber(1, 16);
        CHECK.due("not more", g.earliest(0, 60), -9);
        g.pass(1);
        CHECK.due("but a minute later", g.earliest(0, 60), 1441);

        ParkingGarage h = new ParkingGarage();
        h.addBay(0, 0, 1);
        h.pass(5000);
        h.pass(5000);
        h.pass(5000);
        h.pass(4990);
        h.reserve(1, 0, 19990, 19995);
        h.setNumber(1, 5);
        CHECK.due("at most 20000", h.earliest(0, 1440), 20000);
        h.setNumber(1, 6);
        CHECK.due("not more", h.earliest(0, 1440), -9);
        h.cancel(0);
        h.pass(10);
        CHECK.due("at 20000", h.earliest(0, 1440), 20000);
    }

    private static void promise26Gaps() {
        ParkingGarage g = new ParkingGarage();
        g.addBay(0, 0, 1);
        g.reserve(1, 0, 200, 300);
        g.reserve(1, 0, 40, 60);
        CHECK.due("ahead of both", g.earliest(0, 25), 0);
        CHECK.due("between", g.earliest(0, 26), 75);
        CHECK.due("between, at most", g.earliest(0, 110), 75);
        CHECK.due("behind both", g.earliest(0, 111), 315);
        g.addBay(1, 0, 2);
        g.reserve(1, 2, 0, 99);
        CHECK.due("in the other bay", g.earliest(0, 111), 114);
    }

    /** The begin is the first one with which reserve() makes a reservation, tried one by one. */
    private static void promise26LikeReserve() {
        for (int run = 0; run < 60; run++) {
            Random dice = new Random(1000 + run);
            int size = dice.nextInt(3);
            int minutes = 1 + dice.nextInt(200);
            CHECK.due("run " + run, chosen(run).earliest(size, minutes), tried(run, size, minutes));
        }
    }

    /** Fifty calls, the same for the same run. */
    private static ParkingGarage chosen(int run) {
        ParkingGarage g = new ParkingGarage();
        Random dice = new Random(run);
        int time = 0;
        for (int bay = 0; bay < 3; bay++) {
            g.addBay(0, bay, dice.nextInt(3));
        }
        for (int made = 0; made < 12; made++) {
            g.setNumber(1, dice.nextInt(121));
            int begin = time + dice.nextInt(600);
            g.reserve(1 + dice.nextInt(3), dice.nextInt(3), begin, begin + 1 + dice.nextInt(300));
            g.enter(1 + dice.nextInt(3), dice.nextInt(3));
            int minutes = 1 + dice.nextInt(90);
            g.pass(minutes);
            time += minutes;
        }
        return g;
    }

    private static int tried(int run, int size, int minutes) {
        int time = chosen(run).count(5);
        ParkingGarage g = chosen(run);
        for (int begin = time; begin <= time + 1440 && begin <= 20000; begin++) {
            if ((begin - time) % TRIES_OF_ONE == 0) {
                g = chosen(run);
            }
            if (g.reserve(1, size, begin, begin + minutes) >= 0) {
                return begin;
            }
        }
        return ParkingGarage.NONE;
    }
}
