/** Promises 9 to 14: reserve, cancel, enter, leave, leaveLost, pass. */
public final class CarsTest {
    private static final Check CHECK = new Check("CarsTest");

    private CarsTest() {
    }

    public static void main(String[] arguments) {
        promise9Reserve();
        promise9Errors();
        promise9Order();
        promise9Held();
        promise9Cars();
        promise9Sixteen();
        promise10Cancel();
        promise11Enter();
        promise11WithReservation();
        promise11FirstReservationOnly();
        promise12Leave();
        promise12Overstay();
        promise13LeaveLost();
        promise13WithReservation();
        promise14Pass();
        promise14Expiry();
        CHECK.end();
    }

    private static ParkingGarage garage(int bays, int size) {
        ParkingGarage g = new ParkingGarage();
        for (int bay = 0; bay < bays; bay++) {
            g.addBay(0, bay, size);
        }
        return g;
    }

    private static void promise9Reserve() {
        ParkingGarage g = garage(2, 1);
        CHECK.due("reserve(999, 1, 0, 61)", g.reserve(999, 1, 0, 61), 0);
        int[] first = {999, 0, 0, 61, 400, 0};
        for (int what = 0; what < first.length; what++) {
            CHECK.due("reservation(0, " + what + ")", g.reservation(0, what), first[what]);
        }
        CHECK.due("paid at once", g.account(1), 400);
        CHECK.due("the same plate again", g.reserve(999, 0, 20000, 21440), 1);
        CHECK.due("the end behind the end of time", g.reservation(1, 3), 21440);
        CHECK.due("at most X a day", g.reservation(1, 4), 2000);
        CHECK.due("within the grace", g.reserve(1, 0, 500, 510), 2);
        CHECK.due("costs nothing", g.reservation(2, 4), 0);
        CHECK.due("all prices", g.account(1), 2400);
        CHECK.due("saved", g.count(12), 5);
        CHECK.due("nobody is inside", g.count(3), 0);
    }

    private static void promise9Errors() {
        ParkingGarage g = garage(1, 1);
        g.pass(100);
        int[][] invalid = {
            {0, 0, 100, 101}, {1000, 0, 100, 101}, {-1, 0, 100, 101}, {1, -1, 100, 101}, {1, 3, 100, 101},
            {1, 0, 99, 101}, {1, 0, 20001, 20002}, {1, 0, 100, 100}, {1, 0, 100, 99}, {1, 0, 100, 1541},
            {1, 0, -1, 5}, {1, 0, Integer.MAX_VALUE, Integer.MIN_VALUE}, {1, 0, 100, Integer.MAX_VALUE},
            {1, 0, 100, Integer.MIN_VALUE}, {1, 0, Integer.MIN_VALUE, 0}, {1, 0, 20000, 21441},
        };
        for (int[] row : invalid) {
            CHECK.due("reserve " + java.util.Arrays.toString(row), g.reserve(row[0], row[1], row[2], row[3]), -1);
        }
        CHECK.due("no bay fits", g.reserve(1, 2, 100, 101), -3);
        CHECK.due("reservations", g.count(1), 0);
        CHECK.due("nothing paid", g.account(1), 0);
        CHECK.due("nothing saved", g.count(12), 2);
        CHECK.due("the edges", g.reserve(1, 1, 100, 1540), 0);
        CHECK.due("invalid, and no bay", g.reserve(1, 1, 100, 1541), -1);
        CHECK.due("no bays at all", new ParkingGarage().reserve(1, 0, 0, 1), -3);
    }

    /** By way, then size, then number; a bay that is greater than needed is taken if it is before. */
    private static void promise9Order() {
        ParkingGarage g = new ParkingGarage();
        g.addBay(1, 0, 2);
        g.addBay(0, 50, 1);
        g.addBay(0, 51, 0);
        g.addBay(0, 49, 2);
        g.setBay(3, 0);
        CHECK.due("equal ways, the smaller size", g.reserve(1, 0, 0, 10), 0);
        CHECK.due("bay", g.reservation(0, 1), 1);
        CHECK.due("the next", g.reserve(1, 0, 0, 10), 1);
        CHECK.due("bay", g.reservation(1, 1), 0);
        CHECK.due("the next", g.reserve(1, 0, 0, 10), 2);
        CHECK.due("bay", g.reservation(2, 1), 2);
        CHECK.due("the closed one is not taken", g.reserve(1, 0, 0, 10), -3);
        g.setNumber(0, 1);
        CHECK.due("with another ramp", g.reserve(1, 0, 600, 700), 3);
        CHECK.due("bay", g.reservation(3, 1), 0);

        ParkingGarage h = new ParkingGarage();
        h.addBay(1, 0, 1);
        h.addBay(0, 50, 1);
        CHECK.due("equal ways and sizes, the smaller number", h.reserve(1, 0, 0, 10), 0);
        CHECK.due("bay", h.reservation(0, 1), 0);
    }

    private static void promise9Held() {
        ParkingGarage g = garage(1, 0);
        g.reserve(1, 0, 100, 200);
        CHECK.due("ends in its holding time", g.reserve(2, 0, 20, 86), -3);
        CHECK.due("ends at its holding time", g.reserve(2, 0, 20, 85), 1);
        CHECK.due("holds before its end", g.reserve(3, 0, 214, 300), -3);
        CHECK.due("holds from its end on", g.reserve(3, 0, 215, 300), 2);
        CHECK.due("within it", g.reserve(4, 0, 120, 130), -3);
        CHECK.due("around it", g.reserve(4, 0, 16, 1000), -3);
        CHECK.due("another plate or the same", g.reserve(1, 0, 120, 130), -3);
        g.setNumber(1, 0);
        CHECK.due("with the holding time as it is now", g.reserve(4, 0, 85, 100), 3);
        CHECK.due("no minute between", g.reserve(4, 0, 200, 216), -3);
        CHECK.due("all minutes between", g.reserve(4, 0, 200, 215), 4);
        g.cancel(2);
        CHECK.due("a canceled one holds nothing", g.reserve(5, 0, 215, 300), 5);

        ParkingGarage h = garage(1, 0);
        h.reserve(1, 0, 0, 100);
        h.pass(100);
        CHECK.due("expired", h.reservation(0, 5), 4);
        CHECK.due("an expired one holds nothing, minutes that have passed either", h.reserve(2, 0, 100, 110), 1);

        ParkingGarage p = garage(1, 0);
        p.reserve(1, 0, 0, 100);
        p.enter(1, 0);
        p.setNumber(1, 120);
        p.pass(110);
        CHECK.due("a used one still held minutes that have passed", p.reserve(2, 0, 219, 300), -3);
        CHECK.due("behind the car, and not in them", p.reserve(2, 0, 231, 300), 1);
        p.undo();
        p.leave(1);
        CHECK.due("a done one holds nothing", p.reserve(2, 0, 111, 300), 1);
    }

    private static void promise9Cars() {
        ParkingGarage g = garage(1, 0);
        g.enter(1, 0);
        CHECK.due("holds now, and a car is there", g.reserve(2, 0, 15, 20), -3);
        CHECK.due("its own car, too", g.reserve(1, 0, 0, 20), -3);
        CHECK.due("holds later", g.reserve(2, 0, 16, 20), 0);
        g.addBay(4, 0, 0);
        CHECK.due("holds now, in the next bay", g.reserve(2, 0, 15, 20), 1);
        CHECK.due("bay", g.reservation(1, 1), 1);
        CHECK.due("holds later, the car plays no part", g.reserve(2, 0, 40, 50), 2);
        CHECK.due("bay", g.reservation(2, 1), 0);
    }

    private static void promise9Sixteen() {
        ParkingGarage g = garage(1, 0);
        for (int made = 0; made < 16; made++) {
            CHECK.due("one of sixteen", g.reserve(1, 0, made * 100, made * 100 + 20), made);
        }
        CHECK.due("no room", g.reserve(1, 0, 5000, 5001), -3);
        CHECK.due("invalid, and no room", g.reserve(0, 0, 5000, 5001), -1);
        g.cancel(3);
        CHECK.due("they are never removed", g.reserve(1, 0, 5000, 5001), -3);
        CHECK.due("reservations", g.count(1), 16);
    }

    private static void promise10Cancel() {
        ParkingGarage g = garage(1, 0);
        g.setStep(0, 0, 1, 5);
        CHECK.due("none yet", g.cancel(0), -1);
        g.reserve(1, 0, 50, 63);
        g.reserve(1, 0, 100, 113);
        CHECK.due("prices", g.account(1), 130);
        CHECK.due("cancel(-1)", g.cancel(-1), -1);
        CHECK.due("cancel(2)", g.cancel(2), -1);
        CHECK.due("cancel far", g.cancel(Integer.MAX_VALUE), -1);
        g.pass(50);
        CHECK.due("begins now", g.cancel(0), 0);
        CHECK.due("its state", g.reservation(0, 5), 3);
        CHECK.due("nothing paid back", g.account(1), 130);
        g.pass(49);
        CHECK.due("begins in a minute, an odd price", g.cancel(1), 32);
        CHECK.due("paid back", g.account(1), 98);
        CHECK.due("its price stays", g.reservation(1, 4), 65);
        int saved = g.count(12);
        CHECK.due("canceled already", g.cancel(1), -2);
        g.reserve(2, 0, 99, 120);
        g.enter(2, 0);
        CHECK.due("used", g.cancel(2), -2);
        g.leave(1);
        CHECK.due("done", g.cancel(2), -2);
        g.reserve(2, 0, 99, 120);
        g.pass(30);
        CHECK.due("expired", g.cancel(3), -2);
        CHECK.due("its state stays", g.reservation(3, 5), 4);
        CHECK.due("saved", saved, 6);
    }

    private static void promise11Enter() {
        ParkingGarage g = new ParkingGarage();
        CHECK.due("no bays", g.enter(1, 0), -3);
        g.addBay(1, 10, 0);
        g.addBay(0, 60, 2);
        g.addBay(0, 10, 1);
        g.addBay(0, 5, 2);
        g.setBay(3, 0);
        int[][] invalid = {{0, 0}, {1000, 0}, {-1, 0}, {1, -1}, {1, 3}, {Integer.MAX_VALUE, 0}, {1, Integer.MIN_VALUE}};
        for (int[] row : invalid) {
            CHECK.due("enter(" + row[0] + ", " + row[1] + ")", g.enter(row[0], row[1]), -1);
        }
        CHECK.due("no ticket for an error", g.count(2), 0);
        CHECK.due("the first ticket", g.enter(1, 0), 1);
        CHECK.due("its bay", g.car(1, 2), 2);
        CHECK.due("inside", g.enter(1, 0), -2);
        CHECK.due("inside, with another size", g.enter(1, 2), -2);
        CHECK.due("inside, but invalid", g.enter(1, 3), -1);
        CHECK.due("the second ticket", g.enter(999, 0), 2);
        CHECK.due("its bay, by size", g.car(999, 2), 0);
        CHECK.due("no bay for a large one but one", g.enter(3, 2), 3);
        CHECK.due("its bay", g.car(3, 2), 1);
        CHECK.due("no bay", g.enter(4, 0), -3);
        CHECK.due("inside, and no bay", g.enter(3, 0), -2);
        g.leave(2);
        CHECK.due("no bay for a medium one", g.enter(4, 1), -3);
        g.pass(7);
        CHECK.due("tickets go on", g.enter(999, 0), 4);
        CHECK.due("the entry", g.car(999, 1), 7);
        CHECK.due("cars", g.count(3), 3);
    }

    private static void promise11WithReservation() {
        ParkingGarage g = garage(2, 1);
        g.reserve(5, 1, 20, 60);
        g.pass(4);
        CHECK.due("not held yet", g.enter(5, 1), 1);
        CHECK.due("without it", g.car(5, 3), -9);
        CHECK.due("open still", g.reservation(0, 5), 0);
        g.undo();
        g.pass(1);
        CHECK.due("held for another one", g.enter(6, 1), 1);
        CHECK.due("so the next bay", g.car(6, 2), 1);
        CHECK.due("no bay for a third one", g.enter(7, 1), -3);
        CHECK.due("too large for the bay", g.enter(5, 2), -3);
        CHECK.due("held for this one", g.enter(5, 0), 2);
        CHECK.due("its bay", g.car(5, 2), 0);
        CHECK.due("its reservation", g.car(5, 3), 0);
        CHECK.due("used", g.reservation(0, 5), 1);
        CHECK.due("used, it still holds", g.bay(0, 6), 0);
        g.undo();
        g.setBay(0, 0);
        CHECK.due("its bay is closed", g.enter(5, 0), -3);
        g.addBay(4, 0, 0);
        CHECK.due("another bay", g.enter(5, 0), 2);
        CHECK.due("its bay", g.car(5, 2), 2);
        CHECK.due("without it", g.car(5, 3), -9);
        CHECK.due("open still", g.reservation(0, 5), 0);
    }

    private static void promise11FirstReservationOnly() {
        ParkingGarage g = garage(2, 0);
        g.enter(9, 0);
        g.reserve(5, 0, 16, 100);
        g.reserve(5, 0, 17, 100);
        CHECK.due("the bays", g.reservation(0, 1) * 10 + g.reservation(1, 1), 1);
        g.pass(10);
        CHECK.due("the first one's bay has a car; no other is looked at", g.enter(5, 0), -3);
        g.leave(1);
        CHECK.due("now it has none", g.enter(5, 0), 2);
        CHECK.due("the first one", g.car(5, 3), 0);
        g.leave(2);
        CHECK.due("done", g.reservation(0, 5), 2);
        CHECK.due("the second one is the first now", g.enter(5, 0), 3);
        CHECK.due("the second one", g.car(5, 3), 1);

        ParkingGarage h = garage(2, 0);
        h.reserve(5, 0, 500, 600);
        h.reserve(5, 0, 0, 100);
        CHECK.due("one that holds not now is not the first", h.enter(5, 0), 1);
        CHECK.due("the other one", h.car(5, 3), 1);
    }

    private static void promise12Leave() {
        ParkingGarage g = garage(2, 0);
        CHECK.due("none yet", g.leave(1), -1);
        g.enter(1, 0);
        g.enter(2, 0);
        CHECK.due("leave(0)", g.leave(0), -1);
        CHECK.due("leave(-1)", g.leave(-1), -1);
        CHECK.due("leave(3)", g.leave(3), -1);
        CHECK.due("leave far", g.leave(Integer.MAX_VALUE), -1);
        CHECK.due("leave far below", g.leave(Integer.MIN_VALUE), -1);
        g.pass(61);
        int saved = g.count(12);
        CHECK.due("the fee", g.leave(2), 400);
        CHECK.due("saved", g.count(12), saved + 1);
        CHECK.due("the account", g.account(0), 400);
        CHECK.due("no other account", g.account(-1), 400);
        CHECK.due("its bay is empty", g.bay(1, 5), -9);
        CHECK.due("left", g.leave(2), -2);
        CHECK.due("saved", g.count(12), saved + 1);
        CHECK.due("not inside", g.car(2, 0), -9);
        CHECK.due("the other one stays", g.car(1, 0), 1);
        CHECK.due("again", g.enter(2, 0), 3);
        CHECK.due("the old ticket", g.leave(2), -2);
        g.pass(10);
        CHECK.due("within the grace", g.leave(3), 0);
        g.pass(1440);
        CHECK.due("two days at most", g.leave(1), 4000);
        CHECK.due("the account", g.account(0), 4400);
        for (int ticket = 1; ticket <= 3; ticket++) {
            CHECK.due("ticket " + ticket + " has left", g.leave(ticket), -2);
        }
        CHECK.due("ticket 0, with bays empty", g.leave(0), -1);
        for (int undone = 0; undone < 5; undone++) {
            g.undo();
        }
        CHECK.due("a ticket that was undone never was", g.leave(3), -1);
    }

    private static void promise12Overstay() {
        ParkingGarage g = garage(1, 0);
        g.setNumber(2, 60);
        g.reserve(1, 0, 20, 100);
        g.pass(5);
        g.enter(1, 0);
        CHECK.due("price", g.account(1), 400);
        g.pass(95);
        CHECK.due("nothing up to the end", g.car(1, 4), 0);
        g.pass(1);
        CHECK.due("no grace behind it", g.leave(1), 300);
        CHECK.due("overstays", g.account(2), 300);
        CHECK.due("tickets", g.account(0), 0);
        CHECK.due("done", g.reservation(0, 5), 2);
        g.undo();
        g.pass(5000);
        CHECK.due("no greatest fee of a day", g.leave(1), 300 * 334);
        CHECK.due("all", g.account(-1), 400 + 300 * 334);
        ParkingGarage h = garage(1, 0);
        h.reserve(1, 0, 0, 100);
        h.enter(1, 0);
        CHECK.due("leaves early", h.leave(1), 0);
        CHECK.due("done", h.reservation(0, 5), 2);
        CHECK.due("nothing paid back", h.account(1), 400);
        CHECK.due("a done one holds nothing", h.bay(0, 6), -9);
    }

    private static void promise13LeaveLost() {
        ParkingGarage g = garage(2, 0);
        CHECK.due("leaveLost(0)", g.leaveLost(0), -1);
        CHECK.due("leaveLost(1000)", g.leaveLost(1000), -1);
        CHECK.due("leaveLost far below", g.leaveLost(Integer.MIN_VALUE), -1);
        CHECK.due("not inside", g.leaveLost(1), -2);
        g.setNumber(3, 99999);
        g.pass(1430);
        g.enter(1, 0);
        CHECK.due("as if from 0 on", g.car(1, 5), 2500 + 24 * 200);
        g.pass(9);
        CHECK.due("the last minute of the day", g.car(1, 5), 2500 + 24 * 200);
        g.pass(1);
        CHECK.due("at the day's begin, from its entry on, within the grace", g.car(1, 5), 2500);
        g.pass(1);
        CHECK.due("from its entry on, behind the grace", g.car(1, 5), 2700);
        g.enter(2, 0);
        g.pass(60);
        CHECK.due("from the day's begin on", g.car(2, 5), 2500 + 400);
        int saved = g.count(12);
        CHECK.due("leave", g.leaveLost(2), 2900);
        CHECK.due("saved", g.count(12), Math.min(6, saved + 1));
        CHECK.due("as a whole", g.account(3), 2900);
        CHECK.due("no other account", g.account(-1), 2900);
        CHECK.due("left", g.leaveLost(2), -2);
        CHECK.due("its ticket", g.leave(2), -2);
        CHECK.due("its bay", g.bay(1, 5), -9);
        g.setNumber(4, 0);
        CHECK.due("another lost fee", g.leaveLost(1), 400);
        CHECK.due("sum", g.account(3), 3300);
    }

    private static void promise13WithReservation() {
        ParkingGarage g = garage(1, 0);
        g.pass(1440);
        g.reserve(1, 0, 1455, 1500);
        g.enter(1, 0);
        g.pass(61);
        CHECK.due("an overstay", g.car(1, 4), 300);
        CHECK.due("the lost fee", g.leaveLost(1), 2500 + 400);
        CHECK.due("no overstay", g.account(2), 0);
        CHECK.due("the account", g.account(3), 2900);
        CHECK.due("done", g.reservation(0, 5), 2);
    }

    private static void promise14Pass() {
        ParkingGarage g = new ParkingGarage();
        CHECK.due("pass(0)", g.pass(0), -1);
        CHECK.due("pass(-1)", g.pass(-1), -1);
        CHECK.due("pass(5001)", g.pass(5001), -1);
        CHECK.due("pass far", g.pass(Integer.MAX_VALUE), -1);
        CHECK.due("pass far below", g.pass(Integer.MIN_VALUE), -1);
        CHECK.due("the time", g.count(5), 0);
        CHECK.due("pass(1)", g.pass(1), 0);
        CHECK.due("the time", g.count(5), 1);
        g.pass(5000);
        g.pass(5000);
        g.pass(5000);
        CHECK.due("too far", g.pass(5000), -3);
        CHECK.due("invalid, and too far", g.pass(5001), -1);
        CHECK.due("the time", g.count(5), 15001);
        CHECK.due("to the end", g.pass(4999), 0);
        CHECK.due("the time", g.count(5), 20000);
        CHECK.due("behind the end", g.pass(1), -3);
        CHECK.due("saved", g.count(12), 5);
    }

    private static void promise14Expiry() {
        ParkingGarage g = garage(4, 0);
        g.reserve(1, 0, 0, 50);
        g.reserve(2, 0, 0, 50);
        g.reserve(3, 0, 0, 50);
        g.reserve(4, 0, 0, 51);
        g.cancel(1);
        g.enter(3, 0);
        CHECK.due("none yet", g.pass(49), 0);
        CHECK.due("open", g.reservation(0, 5), 0);
        CHECK.due("one, neither the canceled nor the used one", g.pass(1), 1);
        int[] states = {4, 3, 1, 0};
        for (int reservation = 0; reservation < 4; reservation++) {
            CHECK.due("state of " + reservation, g.reservation(reservation, 5), states[reservation]);
        }
        CHECK.due("nothing is paid back", g.account(1), 800);
        CHECK.due("the next", g.pass(1000), 1);
        CHECK.due("none more", g.pass(1000), 0);
        CHECK.due("the used one", g.reservation(2, 5), 1);
        CHECK.due("its car is inside", g.car(3, 3), 2);
    }
}
