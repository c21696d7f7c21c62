/** Promises 9 to 14: the calls that are refused, with the first code that applies, and that they change nothing. */
public final class RefusedCarsTest {
    private static final int INVALID = -1;
    private static final int STATE = -2;
    private static final int ROOM = -3;
    private static final String FIRST_CODE = "If several error codes apply, the one that is named first in the "
            + "description of the method is returned";
    private static final Check CHECK = new Check("RefusedCarsTest");
    private static final Refused REFUSED = new Refused(CHECK);

    private RefusedCarsTest() {
    }

    public static void main(String[] arguments) {
        promise9Ranges();
        promise9Far();
        promise9Room();
        promise9Order();
        promise10Codes();
        promise11Ranges();
        promise11Codes();
        promise12Codes();
        promise13Codes();
        promise14Codes();
        CHECK.end();
    }

    private static void reserve(Scene scene, int due, int plate, int size, int begin, int end) {
        REFUSED.call(scene, "reserve(" + plate + ", " + size + ", " + begin + ", " + end + ")", due,
                g -> g.reserve(plate, size, begin, end));
    }

    private static void promise9Ranges() {
        CHECK.sentence("Promise 9", "`plate`: 1 to 999");
        reserve(Refused.SOME, INVALID, 0, 0, 800, 900);
        reserve(Refused.SOME, INVALID, 1000, 0, 800, 900);
        CHECK.sentence("Promise 9", "`size`: 0 to 2");
        reserve(Refused.SOME, INVALID, 1, -1, 800, 900);
        reserve(Refused.SOME, INVALID, 1, 3, 800, 900);
        CHECK.sentence("Promise 9", "`begin`: the time or later, at most 20000");
        reserve(Refused.SOME, INVALID, 1, 0, 229, 300);
        reserve(Refused.SOME, INVALID, 1, 0, 20001, 20002);
        reserve(Refused.LAST, INVALID, 1, 0, 19999, 20001);
        reserve(Refused.LAST, INVALID, 1, 0, 20001, 20002);
        reserve(Refused.FRESH.then(g -> g.addBay(0, 0, 0)), INVALID, 1, 0, -1, 1);
        CHECK.sentence("Promise 9", "`end`: greater than begin, at most begin + 1440");
        reserve(Refused.SOME, INVALID, 1, 0, 800, 799);
        reserve(Refused.SOME, INVALID, 1, 0, 800, 800);
        reserve(Refused.SOME, INVALID, 1, 0, 800, 2241);
        reserve(Refused.SOME, INVALID, 1, 0, 20000, 20000);
        reserve(Refused.SOME, INVALID, 1, 0, 20000, 21441);
    }

    private static void promise9Far() {
        CHECK.sentence("Promise 9", "INVALID_ARGUMENT if an argument is out of range");
        for (int far : Refused.FAR) {
            reserve(Refused.SOME, INVALID, far == 1 << 8 ? 1 << 10 : far, 0, 800, 900);
            reserve(Refused.SOME, INVALID, 1, far, 800, 900);
            reserve(Refused.SOME, INVALID, 1, 0, far == 1 << 8 ? 1 << 15 : far, 900);
            reserve(Refused.SOME, INVALID, 1, 0, 800, far);
        }
        reserve(Refused.SOME, INVALID, 1, 0, Integer.MAX_VALUE, Integer.MIN_VALUE);
        reserve(Refused.SOME, INVALID, 1, 0, Integer.MAX_VALUE - 1440, Integer.MAX_VALUE);
        reserve(Refused.SOME, INVALID, 1, 0, Integer.MIN_VALUE, Integer.MIN_VALUE + 1);
    }

    private static void promise9Room() {
        CHECK.sentence("Promise 9", "CAPACITY_EXCEEDED if there are 16 reservations, or there is no bay for it");
        Scene sixteen = new Scene(g -> g.addBay(0, 0, 2));
        for (int row = 0; row < 16; row++) {
            int made = row;
            sixteen = sixteen.then(g -> g.reserve(1, 0, 100 * made, 100 * made + 9), g -> g.cancel(made));
        }
        CHECK.due("the bay is free", sixteen.make().freeFor(0), -9);
        reserve(sixteen, ROOM, 1, 0, 5000, 5001);
        reserve(Refused.FULL, ROOM, 1, 0, 5000, 5001);
        reserve(Refused.FRESH, ROOM, 1, 0, 0, 1);
        Scene medium = new Scene(g -> g.addBay(0, 0, 1));
        reserve(medium, ROOM, 1, 2, 0, 1);
        reserve(medium.then(g -> g.setBay(0, 0)), ROOM, 1, 0, 0, 1);
        reserve(medium.then(g -> g.enter(1, 1)), ROOM, 1, 0, 15, 16);
        reserve(medium.then(g -> g.reserve(2, 0, 100, 200)), ROOM, 1, 0, 50, 86);
        reserve(medium.then(g -> g.reserve(2, 0, 100, 200)), ROOM, 1, 0, 214, 300);
    }

    private static void promise9Order() {
        CHECK.sentence("Errors", FIRST_CODE);
        reserve(Refused.FULL, INVALID, 0, 0, 5000, 5001);
        reserve(Refused.FULL, INVALID, 1, 3, 5000, 5001);
        reserve(Refused.FULL, INVALID, 1, 0, 20001, 20002);
        reserve(Refused.FULL, INVALID, 1, 0, 5000, 5000);
        reserve(Refused.FRESH, INVALID, 1000, 0, 0, 1);
        reserve(Refused.FRESH, INVALID, 1, -1, 0, 1);
        reserve(Refused.FRESH, INVALID, 1, 0, -1, 1);
        reserve(Refused.FRESH, INVALID, 1, 0, 0, 1441);
    }

    private static void cancel(Scene scene, int due, int reservation) {
        REFUSED.call(scene, "cancel(" + reservation + ")", due, g -> g.cancel(reservation));
    }

    private static void promise10Codes() {
        CHECK.sentence("Promise 10", "INVALID_ARGUMENT if there is no such reservation");
        cancel(Refused.FRESH, INVALID, 0);
        cancel(Refused.SOME, INVALID, -1);
        cancel(Refused.SOME, INVALID, 5);
        cancel(Refused.FULL, INVALID, 16);
        for (int far : Refused.FAR) {
            cancel(Refused.SOME, INVALID, far);
            cancel(Refused.FULL, INVALID, far);
        }
        CHECK.sentence("Promise 10", "ILLEGAL_STATE if it is not open");
        int[] states = {2, 1, 4, 3};
        for (int reservation = 0; reservation < states.length; reservation++) {
            CHECK.due("state of " + reservation, Refused.SOME.make().reservation(reservation, 5), states[reservation]);
            cancel(Refused.SOME, STATE, reservation);
        }
        cancel(Refused.FULL, STATE, 15);
    }

    private static void enter(Scene scene, int due, int plate, int size) {
        REFUSED.call(scene, "enter(" + plate + ", " + size + ")", due, g -> g.enter(plate, size));
    }

    private static void promise11Ranges() {
        CHECK.sentence("Promise 11", "`plate`: 1 to 999");
        enter(Refused.SOME, INVALID, 0, 0);
        enter(Refused.SOME, INVALID, 1000, 0);
        CHECK.sentence("Promise 11", "`size`: 0 to 2");
        enter(Refused.SOME, INVALID, 1, -1);
        enter(Refused.SOME, INVALID, 1, 3);
        CHECK.sentence("Promise 11", "INVALID_ARGUMENT if an argument is out of range");
        for (int far : Refused.FAR) {
            enter(Refused.SOME, INVALID, far == 1 << 8 ? 1 << 10 : far, 0);
            enter(Refused.SOME, INVALID, 1, far);
        }
    }

    private static void promise11Codes() {
        CHECK.sentence("Promise 11", "ILLEGAL_STATE if the car is inside");
        enter(Refused.SOME, STATE, 2, 0);
        enter(Refused.SOME, STATE, 7, 2);
        CHECK.sentence("Promise 11", "CAPACITY_EXCEEDED if there is no bay for it");
        enter(Refused.FRESH, ROOM, 1, 0);
        enter(Refused.FULL, ROOM, 31, 0);
        enter(Refused.SOME.then(g -> g.setBay(2, 0)), ROOM, 9, 0);
        enter(new Scene(g -> g.addBay(0, 0, 1)), ROOM, 9, 2);
        enter(new Scene(g -> g.addBay(0, 0, 1), g -> g.reserve(8, 0, 15, 20)), ROOM, 9, 0);
        enter(new Scene(g -> g.addBay(0, 0, 1), g -> g.reserve(8, 0, 15, 20)), ROOM, 8, 2);
        CHECK.sentence("Errors", FIRST_CODE);
        enter(Refused.SOME, INVALID, 2, 3);
        enter(Refused.FULL, INVALID, 31, 3);
        enter(Refused.FULL, INVALID, 1000, 0);
        enter(Refused.FULL, STATE, 30, 0);
        enter(Refused.FULL, STATE, 1, 2);
        enter(Refused.FULL, INVALID, 1, -1);
    }

    private static void leave(Scene scene, int due, int ticket) {
        REFUSED.call(scene, "leave(" + ticket + ")", due, g -> g.leave(ticket));
    }

    private static void promise12Codes() {
        CHECK.sentence("Promise 12", "INVALID_ARGUMENT if there never was such a ticket");
        leave(Refused.FRESH, INVALID, 0);
        leave(Refused.FRESH, INVALID, 1);
        leave(Refused.SOME, INVALID, -1);
        leave(Refused.SOME, INVALID, 0);
        leave(Refused.SOME, INVALID, 5);
        leave(Refused.FULL, INVALID, 0);
        leave(Refused.FULL, INVALID, 31);
        leave(new Scene(g -> g.addBay(0, 0, 0), g -> g.enter(1, 0), ParkingGarage::undo), INVALID, 1);
        for (int far : Refused.FAR) {
            leave(Refused.SOME, INVALID, far);
            leave(Refused.FULL, INVALID, far);
        }
        CHECK.sentence("Promise 12", "ILLEGAL_STATE if its car has left");
        leave(Refused.SOME, STATE, 1);
        leave(Refused.SOME, STATE, 3);
        leave(new Scene(g -> g.addBay(0, 0, 0), g -> g.enter(1, 0), g -> g.leave(1), g -> g.enter(1, 0)), STATE, 1);
    }

    private static void leaveLost(Scene scene, int due, int plate) {
        REFUSED.call(scene, "leaveLost(" + plate + ")", due, g -> g.leaveLost(plate));
    }

    private static void promise13Codes() {
        CHECK.sentence("Promise 13", "`plate`: 1 to 999");
        leaveLost(Refused.SOME, INVALID, 0);
        leaveLost(Refused.SOME, INVALID, 1000);
        CHECK.sentence("Promise 13", "INVALID_ARGUMENT if plate is out of range");
        leaveLost(Refused.FRESH, INVALID, 0);
        leaveLost(Refused.FRESH, INVALID, 1000);
        for (int far : Refused.FAR) {
            leaveLost(Refused.FULL, INVALID, far == 1 << 8 ? 1 << 10 : far);
        }
        CHECK.sentence("Promise 13", "ILLEGAL_STATE if the car is not inside");
        leaveLost(Refused.FRESH, STATE, 1);
        leaveLost(Refused.FRESH, STATE, 999);
        leaveLost(Refused.SOME, STATE, 1);
        leaveLost(Refused.SOME, STATE, 5);
        leaveLost(Refused.SOME, STATE, 6);
        leaveLost(Refused.FULL, STATE, 31);
    }

    private static void pass(Scene scene, int due, int minutes) {
        REFUSED.call(scene, "pass(" + minutes + ")", due, g -> g.pass(minutes));
    }

    private static void promise14Codes() {
        CHECK.sentence("Promise 14", "`minutes`: 1 to 5000");
        pass(Refused.SOME, INVALID, 0);
        pass(Refused.SOME, INVALID, -1);
        pass(Refused.SOME, INVALID, 5001);
        CHECK.sentence("Promise 14", "INVALID_ARGUMENT if minutes is out of range");
        for (int far : Refused.FAR) {
            pass(Refused.SOME, INVALID, far == 1 << 8 ? 1 << 13 : far);
            pass(Refused.FULL, INVALID, far == 1 << 8 ? 1 << 13 : far);
        }
        CHECK.sentence("Promise 14", "CAPACITY_EXCEEDED if the time would be greater than 20000");
        pass(Refused.LAST, ROOM, 1);
        pass(Refused.LAST, ROOM, 5000);
        Scene ahead = new Scene(g -> g.addBay(0, 0, 0), g -> g.pass(5000), g -> g.pass(5000), g -> g.pass(5000),
                g -> g.pass(1), g -> g.reserve(1, 0, 15001, 15002));
        pass(ahead, ROOM, 5000);
        CHECK.due("the last minute", ahead.make().pass(4999), 1);
        CHECK.sentence("Errors", FIRST_CODE);
        pass(Refused.LAST, INVALID, 0);
        pass(Refused.LAST, INVALID, 5001);
        pass(Refused.LAST, INVALID, Integer.MAX_VALUE);
    }
}
