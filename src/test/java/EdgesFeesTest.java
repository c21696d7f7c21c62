/** The sentences on fees and accounts: steps, units, the grace, the greatest fee of a day, overstays, lost tickets. */
public final class EdgesFeesTest {
    private static final int INVALID = -1;
    private static final int STATE = -2;
    private static final int ROOM = -3;
    private static final int NONE = -9;
    private static final String LOST = "plus the fee of the normal tariff as if the car had entered at the last "
            + "multiple of 1440 that is not greater than the time, or at its entry, if that is earlier; whether there "
            + "is a reservation or not.";
    private static final Check CHECK = new Check("EdgesFeesTest");

    private EdgesFeesTest() {
    }

    public static void main(String[] arguments) {
        fiveSteps();
        stepRanges();
        stepsAtFirst();
        setStepAnswers();
        startsBelow();
        units();
        nextStart();
        withoutSteps();
        grace();
        greatestOfDay();
        days();
        ticketFee();
        overstay();
        overstayHasNoGrace();
        lostFee();
        lostDays();
        lostRange();
        setNumberAnswers();
        accounts();
        greatestSums();
        CHECK.end();
    }

    private static void fiveSteps() {
        CHECK.sentence("Fees", "A tariff has at most 5 steps, ordered by their starts");
        for (int tariff = 0; tariff <= 1; tariff++) {
            ParkingGarage g = new ParkingGarage();
            int[] starts = {1440, 700, 1, 1439};
            for (int index = 0; index < starts.length; index++) {
                CHECK.due("step", g.setStep(tariff, starts[index], index + 1, index + 10), index + 2);
            }
            int[][] ordered = {{0, 60 - 45 * tariff, 200 + 100 * tariff}, {1, 3, 12}, {700, 2, 11}, {1439, 4, 13},
                {1440, 1, 10}};
            for (int index = 0; index < 5; index++) {
                for (int what = 0; what <= 2; what++) {
                    CHECK.due("step " + index + " " + what, g.step(tariff, index, what), ordered[index][what]);
                }
            }
            CHECK.due("there is no sixth", g.step(tariff, 5, 0), NONE);
            CHECK.due("a sixth", g.setStep(tariff, 2, 1, 1), ROOM);
            CHECK.due("a sixth at the other end", g.setStep(tariff, 1438, 1, 1), ROOM);
            CHECK.due("the fifth once more", g.setStep(tariff, 1440, 240, 5000), 5);
            CHECK.due("the first once more", g.setStep(tariff, 0, 240, 5000), 5);
            CHECK.due("remove the first", g.setStep(tariff, 0, 0, 0), 4);
            CHECK.due("the first then", g.step(tariff, 0, 0), 1);
            CHECK.due("there is no fifth then", g.step(tariff, 4, 0), NONE);
            CHECK.due("room for one", g.setStep(tariff, 2, 1, 1), 5);
            CHECK.due("and no more", g.setStep(tariff, 3, 1, 1), ROOM);
            CHECK.due("the other tariff", g.step(1 - tariff, 1, 0), NONE);
        }
    }

    private static void stepRanges() {
        CHECK.sentence("Fees", "a step has a start (0 to 1440, no two alike), a unit (1 to 240 minutes) and a price "
                + "(0 to 5000).");
        int[][] rows = {{0, 1, 0, 1}, {0, 240, 5000, 1}, {1440, 1, 5000, 2}, {1440, 240, 0, 2}, {1, 1, 1, 2},
            {-1, 1, 1, INVALID}, {1441, 1, 1, INVALID}, {5, -1, 1, INVALID}, {5, 241, 1, INVALID}, {5, 1, -1, INVALID},
            {5, 1, 5001, INVALID}};
        for (int[] row : rows) {
            for (int tariff = 0; tariff <= 1; tariff++) {
                ParkingGarage g = new ParkingGarage();
                CHECK.due("step " + row[0] + " " + row[1] + " " + row[2], g.setStep(tariff, row[0], row[1], row[2]),
                        row[3]);
                for (int what = 0; what <= 2 && row[3] > 0; what++) {
                    CHECK.due("it", g.step(tariff, row[3] - 1, what), row[what]);
                }
            }
        }
        CHECK.sentence("Promise 4", "Sets a step of a tariff, in place of one with the same start.");
        ParkingGarage g = new ParkingGarage();
        CHECK.due("another one", g.setStep(0, 1440, 1, 1), 2);
        CHECK.due("no two alike", g.setStep(0, 1440, 2, 3), 2);
        CHECK.due("its unit", g.step(0, 1, 1), 2);
        CHECK.due("its price", g.step(0, 1, 2), 3);
        CHECK.due("the one ahead", g.step(0, 0, 1), 60);
    }

    private static void stepsAtFirst() {
        CHECK.sentence("Fees", "At first the normal tariff has the step 0, 60, 200, and the other one the step 0, 15, "
                + "300.");
        ParkingGarage g = new ParkingGarage();
        int[][] first = {{0, 60, 200}, {0, 15, 300}};
        for (int tariff = 0; tariff <= 1; tariff++) {
            for (int what = 0; what <= 2; what++) {
                CHECK.due("step", g.step(tariff, 0, what), first[tariff][what]);
                CHECK.due("no second one", g.step(tariff, 1, what), NONE);
            }
        }
    }

    private static void setStepAnswers() {
        CHECK.sentence("Promise 4", "Returns the number of its steps then");
        for (int tariff = 0; tariff <= 1; tariff++) {
            ParkingGarage g = new ParkingGarage();
            CHECK.due("in place", g.setStep(tariff, 0, 1, 0), 1);
            CHECK.due("the last one removed", g.setStep(tariff, 0, 0, 5000), 0);
            CHECK.due("none is left", g.step(tariff, 0, 0), NONE);
            CHECK.due("none to remove", g.setStep(tariff, 0, 0, 0), STATE);
            CHECK.due("the first one", g.setStep(tariff, 1440, 1, 0), 1);
            CHECK.due("ahead of it", g.setStep(tariff, 0, 1, 0), 2);
            CHECK.due("remove the last one", g.setStep(tariff, 1440, 0, 0), 1);
            CHECK.due("it is gone", g.step(tariff, 1, 0), NONE);
            CHECK.due("the other tariff", g.step(1 - tariff, 0, 1), tariff == 0 ? 15 : 60);
        }
    }

    /** A garage with just one step in both tariffs, without a grace, and with the greatest X. */
    private static ParkingGarage oneStep(int start, int unit, int price) {
        ParkingGarage g = new ParkingGarage();
        g.setNumber(2, 0);
        g.setNumber(3, 99999);
        for (int tariff = 0; tariff <= 1; tariff++) {
            g.setStep(tariff, 0, 0, 0);
            g.setStep(tariff, start, unit, price);
        }
        return g;
    }

    private static void fees(String what, ParkingGarage g, int minutes, int money) {
        CHECK.due(what + ", " + minutes + " minutes", g.fee(0, minutes), money);
        CHECK.due(what + ", " + minutes + " minutes over", g.fee(1, minutes), money);
    }

    private static void startsBelow() {
        CHECK.sentence("Fees", "over all its steps whose start is less than d");
        for (int start : new int[] {0, 1, 2, 59, 60, 1439, 1440}) {
            ParkingGarage g = oneStep(start, 60, 7);
            String what = "start " + start;
            fees(what, g, 0, 0);
            fees(what, g, Math.max(0, start - 1), 0);
            fees(what, g, start, 0);
            fees(what, g, start + 1, 7);
            fees(what, g, start + 60, 7);
            fees(what, g, start + 61, 14);
        }
    }

    private static void units() {
        CHECK.sentence("Fees", "units is (m + unit - 1) / unit");
        for (int unit : new int[] {1, 2, 3, 15, 60, 239, 240}) {
            ParkingGarage g = oneStep(0, unit, 9);
            String what = "unit " + unit;
            fees(what, g, 0, 0);
            fees(what, g, 1, 9);
            fees(what, g, unit, 9);
            fees(what, g, unit + 1, 18);
            fees(what, g, 2 * unit, 18);
            fees(what, g, 2 * unit + 1, 27);
            CHECK.due(what + ", the longest", g.fee(1, 20000), 9 * ((20000 + unit - 1) / unit));
        }
        fees("price 0", oneStep(0, 1, 0), 20000, 0);
        fees("price 5000", oneStep(0, 240, 5000), 1, 5000);
        CHECK.due("the dearest", oneStep(0, 1, 5000).fee(1, 20000), 100000000);
    }

    private static void nextStart() {
        CHECK.sentence("Fees", "m is the smaller one of d and the start of the next step (d, if there is none), less "
                + "the start of the step itself.");
        ParkingGarage g = oneStep(10, 7, 100);
        for (int tariff = 0; tariff <= 1; tariff++) {
            g.setStep(tariff, 25, 5, 1000);
            g.setStep(tariff, 26, 240, 7);
            g.setStep(tariff, 1440, 1, 3);
        }
        int[][] rows = {{10, 0}, {11, 100}, {17, 100}, {18, 200}, {24, 200}, {25, 300}, {26, 1300}, {27, 1307},
                {266, 1307}, {267, 1314}, {1440, 1342}, {1441, 1345}, {1442, 1348}, {20000, 1342 + 3 * 18560}};
        for (int[] row : rows) {
            fees("steps", g, row[0], row[1]);
        }
    }

    private static void withoutSteps() {
        CHECK.sentence("Fees", "(Without steps, it is 0.)");
        ParkingGarage g = new ParkingGarage();
        g.setStep(0, 0, 0, 0);
        g.setStep(1, 0, 0, 0);
        for (int minutes : new int[] {0, 1, 11, 1440, 1441, 20000}) {
            fees("none", g, minutes, 0);
        }
        g.addBay(0, 0, 0);
        g.addBay(0, 1, 0);
        g.reserve(1, 0, 0, 20);
        CHECK.due("a price", g.reservation(0, 4), 0);
        g.enter(1, 0);
        g.enter(2, 0);
        g.pass(5000);
        CHECK.due("an overstay", g.leave(1), 0);
        CHECK.due("minutes left", g.minutesLeft(2), 1440);
        CHECK.due("a lost ticket", g.leaveLost(2), 2500);
    }

    private static void grace() {
        CHECK.sentence("Fees", "The fee of the normal tariff for d minutes is 0 if d is at most the grace, 0 to 60 "
                + "(at first 10)");
        ParkingGarage g = new ParkingGarage();
        CHECK.due("at first", g.count(8), 10);
        CHECK.due("10 minutes", g.fee(0, 10), 0);
        CHECK.due("11 minutes", g.fee(0, 11), 200);
        CHECK.due("-1", g.setNumber(2, -1), INVALID);
        CHECK.due("61", g.setNumber(2, 61), INVALID);
        g.setStep(0, 0, 1, 1);
        for (int grace : new int[] {0, 1, 2, 10, 59, 60}) {
            CHECK.holds("in its range", g.setNumber(2, grace) >= 0);
            CHECK.due("the grace", g.count(8), grace);
            CHECK.due("no minutes", g.fee(0, 0), 0);
            CHECK.due("its last minute", g.fee(0, grace), 0);
            CHECK.due("behind it, from the first minute on", g.fee(0, grace + 1), grace + 1);
            CHECK.due("not of the other tariff", g.fee(1, 1), 300);
        }
    }

    private static void greatestOfDay() {
        CHECK.sentence("Fees", "but at most X * ((d + 1439) / 1440), where X is the greatest fee of a day, 0 to 99999 "
                + "(at first 2000).");
        ParkingGarage g = new ParkingGarage();
        CHECK.due("at first", g.count(9), 2000);
        CHECK.due("-1", g.setNumber(3, -1), INVALID);
        CHECK.due("100000", g.setNumber(3, 100000), INVALID);
        CHECK.due("just X", g.fee(0, 600), 2000);
        CHECK.due("a unit more", g.fee(0, 601), 2000);
        g.setNumber(3, 1999);
        CHECK.due("less than the sum", g.fee(0, 600), 1999);
        g.setNumber(3, 2001);
        CHECK.due("more than the sum", g.fee(0, 600), 2000);
        CHECK.due("a unit more", g.fee(0, 601), 2001);
        g.setNumber(3, 0);
        CHECK.due("X 0", g.fee(0, 11), 0);
        CHECK.due("X 0, long", g.fee(0, 20000), 0);
        g.setNumber(3, 1);
        CHECK.due("X 1", g.fee(0, 1440), 1);
        CHECK.due("X 1, a second day", g.fee(0, 1441), 2);
        g.setStep(0, 0, 1, 5000);
        g.setNumber(3, 99999);
        CHECK.due("the greatest X", g.fee(0, 1440), 99999);
        CHECK.due("the greatest X, twice", g.fee(0, 1441), 199998);
        CHECK.due("the greatest X, the longest", g.fee(0, 20000), 14 * 99999);
        CHECK.due("not of the other tariff", g.fee(1, 20000), 300 * 1334);
    }

    private static void days() {
        CHECK.sentence("Fees", "but at most X * ((d + 1439) / 1440)");
        ParkingGarage g = new ParkingGarage();
        for (int day = 1; day <= 13; day++) {
            CHECK.due("the last minute of " + day, g.fee(0, 1440 * day), 2000 * day);
            CHECK.due("the first minute behind " + day, g.fee(0, 1440 * day + 1), 2000 * (day + 1));
        }
        CHECK.due("the longest", g.fee(0, 20000), 2000 * 14);
    }

    private static void ticketFee() {
        CHECK.sentence("Fees", "The fee of a ticket is that of the normal tariff for the time less its entry, if it "
                + "has no reservation");
        int[][] rows = {{1, 0}, {10, 0}, {11, 200}, {60, 200}, {61, 400}, {600, 2000}, {1440, 2000}, {1441, 4000},
            {2880, 4000}, {2881, 6000}};
        for (int[] row : rows) {
            for (int entry : new int[] {0, 1, 1439, 1440}) {
                ParkingGarage g = new ParkingGarage();
                g.addBay(0, 0, 0);
                if (entry > 0) {
                    g.pass(entry);
                }
                g.enter(1, 0);
                CHECK.due("at its entry", g.car(1, 4), 0);
                g.pass(row[0]);
                CHECK.due("the fee now, of " + row[0], g.car(1, 4), row[1]);
                CHECK.due("the fee of " + row[0], g.leave(1), row[1]);
                CHECK.due("the account", g.account(0), row[1]);
            }
        }
        ParkingGarage longest = new ParkingGarage();
        longest.addBay(0, 0, 0);
        longest.enter(1, 0);
        for (int passed = 0; passed < 4; passed++) {
            longest.pass(5000);
        }
        CHECK.due("the longest", longest.leave(1), 28000);
    }

    private static void overstay() {
        CHECK.sentence("Fees", "otherwise it is 0 up to the end of the reservation, and later the sum of the tariff "
                + "for overstays (without a grace) for the minutes since then.");
        int[][] rows = {{-200, 0}, {-1, 0}, {0, 0}, {1, 300}, {15, 300}, {16, 600}, {30, 600}, {31, 900}, {1440, 28800},
            {1441, 29100}};
        for (int[] row : rows) {
            ParkingGarage g = new ParkingGarage();
            g.addBay(0, 0, 0);
            g.reserve(1, 0, 10, 250);
            g.enter(1, 0);
            g.pass(250 + row[0]);
            CHECK.due("the fee now, " + row[0], g.car(1, 4), row[1]);
            CHECK.due("the fee, " + row[0], g.leave(1), row[1]);
            CHECK.due("overstays", g.account(2), row[1]);
            CHECK.due("nothing is paid back", g.account(1), 800);
            CHECK.due("no fee of a ticket", g.account(0), 0);
        }
    }

    private static void overstayHasNoGrace() {
        CHECK.sentence("Fees", "the sum of the tariff for overstays (without a grace)");
        ParkingGarage g = new ParkingGarage();
        g.setNumber(2, 60);
        g.setNumber(3, 0);
        g.setStep(1, 0, 240, 5000);
        g.setStep(1, 1, 1, 10);
        g.addBay(0, 0, 0);
        g.reserve(1, 0, 0, 1);
        g.enter(1, 0);
        g.pass(1);
        CHECK.due("at its end", g.car(1, 4), 0);
        g.pass(1);
        CHECK.due("the first minute", g.car(1, 4), 5000);
        g.pass(1);
        CHECK.due("the second minute", g.car(1, 4), 5010);
        g.pass(2997);
        CHECK.due("no greatest fee of a day", g.leave(1), 5000 + 10 * 2998);
    }

    /** The fee for the lost ticket of a car that enters at a minute, at a later one. */
    private static void lost(int entry, int minute, int money) {
        ParkingGarage g = new ParkingGarage();
        g.addBay(0, 0, 0);
        while (g.count(5) < entry) {
            g.pass(Math.min(5000, entry - g.count(5)));
        }
        g.enter(1, 0);
        while (g.count(5) < minute) {
            g.pass(Math.min(5000, minute - g.count(5)));
        }
        CHECK.due("entered at " + entry + ", lost at " + minute + ", now", g.car(1, 5), 2500 + money);
        CHECK.due("entered at " + entry + ", lost at " + minute, g.leaveLost(1), 2500 + money);
        CHECK.due("as a whole", g.account(3), 2500 + money);
        CHECK.due("and nothing else", g.account(-1), 2500 + money);
    }

    private static void lostFee() {
        CHECK.sentence("Fees", LOST);
        lost(0, 0, 0);
        lost(0, 10, 0);
        lost(0, 11, 200);
        lost(5, 10, 0);
        lost(5, 11, 200);
        lost(11, 11, 200);
        lost(1439, 1439, 2000);
        lost(1440, 1440, 0);
        lost(1440, 1450, 0);
        lost(1440, 1451, 200);
        lost(1441, 1450, 0);
        lost(1441, 1451, 200);
        lost(1451, 1451, 200);
        lost(1439, 1440, 0);
        lost(1439, 1449, 0);
        lost(1439, 1450, 200);
        lost(1430, 1440, 0);
        lost(1429, 1440, 200);
    }

    private static void lostDays() {
        CHECK.sentence("Fees", LOST);
        lost(0, 1440, 2000);
        lost(0, 1441, 4000);
        lost(1, 1441, 2000);
        lost(1, 1442, 4000);
        lost(0, 2880, 4000);
        lost(2879, 2879, 2000);
        lost(2880, 2880, 0);
        lost(18720, 18720, 0);
        lost(18719, 18719, 2000);
        lost(18720, 20000, 2000);
        lost(20000, 20000, 2000);
        lost(0, 20000, 28000);
        ParkingGarage g = new ParkingGarage();
        g.addBay(0, 0, 0);
        g.pass(1440);
        g.reserve(1, 0, 1440, 1500);
        g.pass(30);
        g.enter(1, 0);
        CHECK.due("with a reservation, since the multiple", g.car(1, 5), 2700);
        CHECK.due("within it", g.car(1, 4), 0);
        g.pass(1410);
        CHECK.due("with a reservation, since its entry", g.leaveLost(1), 4500);
    }

    private static void lostRange() {
        CHECK.sentence("Fees", "For a lost ticket, the fee is the lost fee, 0 to 99999 (at first 2500)");
        ParkingGarage g = new ParkingGarage();
        g.addBay(0, 0, 0);
        g.enter(1, 0);
        CHECK.due("at first", g.count(10), 2500);
        CHECK.due("-1", g.setNumber(4, -1), INVALID);
        CHECK.due("100000", g.setNumber(4, 100000), INVALID);
        CHECK.due("it", g.car(1, 5), 2500);
        CHECK.due("0", g.setNumber(4, 0), 2500);
        CHECK.due("nothing", g.car(1, 5), 0);
        g.pass(11);
        CHECK.due("the other fee alone", g.car(1, 5), 200);
        CHECK.due("99999", g.setNumber(4, 99999), 0);
        CHECK.due("the dearest", g.leaveLost(1), 100199);
        CHECK.due("the account", g.account(3), 100199);
    }

    private static void setNumberAnswers() {
        int[] least = {1, 0, 0, 0, 0};
        int[] greatest = {200, 120, 60, 99999, 99999};
        int[] first = {50, 15, 10, 2000, 2500};
        for (int what = 0; what <= 4; what++) {
            CHECK.sentence("Promise 5", "Returns the previous number");
            ParkingGarage g = new ParkingGarage();
            CHECK.due("the least", g.setNumber(what, least[what]), first[what]);
            CHECK.due("the greatest", g.setNumber(what, greatest[what]), least[what]);
            CHECK.due("the same", g.setNumber(what, greatest[what]), greatest[what]);
            CHECK.due("it", g.count(6 + what), greatest[what]);
            CHECK.sentence("Promise 5", "`value`: in its range");
            CHECK.due("below", g.setNumber(what, least[what] - 1), INVALID);
            CHECK.due("above", g.setNumber(what, greatest[what] + 1), INVALID);
            CHECK.due("it", g.count(6 + what), greatest[what]);
        }
    }

    private static void accounts() {
        CHECK.sentence("Accounts", "The accounts are: 0 fees of tickets without a reservation, 1 prices of "
                + "reservations less what was paid back, 2 fees of overstays, 3 fees for lost tickets, as a whole.");
        ParkingGarage g = new ParkingGarage();
        for (int bay = 0; bay < 4; bay++) {
            g.addBay(0, bay, 0);
        }
        account(g, 0, 0, 0, 0);
        g.reserve(1, 0, 0, 61);
        account(g, 0, 400, 0, 0);
        g.reserve(2, 0, 0, 61);
        g.reserve(3, 0, 100, 161);
        account(g, 0, 1200, 0, 0);
        g.cancel(2);
        account(g, 0, 1000, 0, 0);
        g.enter(1, 0);
        g.enter(2, 0);
        g.enter(4, 0);
        g.enter(5, 0);
        account(g, 0, 1000, 0, 0);
        g.pass(62);
        account(g, 0, 1000, 0, 0);
        g.leave(1);
        account(g, 0, 1000, 300, 0);
        g.leaveLost(2);
        account(g, 0, 1000, 300, 2900);
        g.leave(3);
        account(g, 400, 1000, 300, 2900);
        g.leaveLost(5);
        account(g, 400, 1000, 300, 5800);
        CHECK.due("a ticket that has left pays nothing", g.leave(4), STATE);
        account(g, 400, 1000, 300, 5800);
    }

    private static void account(ParkingGarage g, int tickets, int prices, int overstays, int lost) {
        CHECK.due("tickets", g.account(0), tickets);
        CHECK.due("prices", g.account(1), prices);
        CHECK.due("overstays", g.account(2), overstays);
        CHECK.due("lost tickets", g.account(3), lost);
        CHECK.due("all together", g.account(-1), tickets + prices + overstays + lost);
    }

    /** The dearest that can be: sixteen overstays of nearly all the time, and all the other cars. */
    private static void greatestSums() {
        CHECK.sentence("Promise 20", "Returns the sum");
        ParkingGarage g = new ParkingGarage();
        g.setStep(1, 0, 1, 5000);
        g.setStep(0, 0, 1, 5000);
        g.setNumber(2, 0);
        g.setNumber(3, 99999);
        g.setNumber(4, 99999);
        for (int bay = 0; bay < 30; bay++) {
            g.addBay(0, bay, 0);
        }
        for (int plate = 1; plate <= 16; plate++) {
            g.reserve(plate, 0, 0, 1);
        }
        for (int plate = 1; plate <= 30; plate++) {
            g.enter(plate, 0);
        }
        for (int passed = 0; passed < 4; passed++) {
            g.pass(5000);
        }
        for (int ticket = 1; ticket <= 16; ticket++) {
            CHECK.due("an overstay", g.leave(ticket), 19999 * 5000);
        }
        for (int ticket = 17; ticket <= 23; ticket++) {
            CHECK.due("a ticket", g.leave(ticket), 14 * 99999);
        }
        for (int plate = 24; plate <= 30; plate++) {
            CHECK.due("a lost ticket", g.leaveLost(plate), 15 * 99999);
        }
        account(g, 7 * 14 * 99999, 16 * 5000, 16 * 19999 * 5000, 7 * 15 * 99999);
    }
}
