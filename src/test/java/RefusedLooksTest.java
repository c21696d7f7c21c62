/**
 * Promises 15 to 27: the calls that are refused, with the error code ahead of NONE, and that no looking call, refused
 * or not, changes anything.
 */
public final class RefusedLooksTest {
    private static final int INVALID = -1;
    private static final int STATE = -2;
    private static final int NONE = -9;
    private static final String NONE_LAST = "NONE is no error, and it is returned only if no error code applies.";
    private static final Check CHECK = new Check("RefusedLooksTest");
    private static final Refused REFUSED = new Refused(CHECK);
    private static final Scene[] SCENES = {Refused.FRESH, Refused.SOME, Refused.FULL, Refused.LAST};

    private RefusedLooksTest() {
    }

    public static void main(String[] arguments) {
        promise15Count();
        promise16Bay();
        promise17Reservation();
        promise18Car();
        promise19Step();
        promise20Account();
        promise21And22Bays();
        promise23Fee();
        promise24And25();
        promise26Earliest();
        promise27Undo();
        nothingThereIsNoError();
        looksChangeNothing();
        CHECK.end();
    }

    /** The same call in each scene. */
    private static void everywhere(String name, int due, Scene.Call call) {
        for (Scene scene : SCENES) {
            REFUSED.call(scene, name, due, call);
        }
    }

    private static void promise15Count() {
        CHECK.sentence("Promise 15", "INVALID_ARGUMENT if what is out of range");
        everywhere("count(-1)", INVALID, g -> g.count(-1));
        everywhere("count(13)", INVALID, g -> g.count(13));
        for (int far : Refused.FAR) {
            REFUSED.call(Refused.SOME, "count(" + far + ")", INVALID, g -> g.count(far));
        }
    }

    private static void bay(Scene scene, int bay, int what) {
        REFUSED.call(scene, "bay(" + bay + ", " + what + ")", INVALID, g -> g.bay(bay, what));
    }

    private static void promise16Bay() {
        CHECK.sentence("Promise 16", "INVALID_ARGUMENT if there is no such bay or what is out of range");
        for (int what = -1; what <= 7; what++) {
            bay(Refused.FRESH, 0, what);
            bay(Refused.SOME, -1, what);
            bay(Refused.SOME, 4, what);
            bay(Refused.FULL, 30, what);
        }
        for (int bay = 0; bay <= 3; bay++) {
            bay(Refused.SOME, bay, -1);
            bay(Refused.SOME, bay, 7);
        }
        for (int far : Refused.FAR) {
            bay(Refused.SOME, far, 0);
            bay(Refused.SOME, far, 5);
            bay(Refused.SOME, far, 6);
            bay(Refused.SOME, 2, far);
        }
    }

    private static void reservation(Scene scene, int reservation, int what) {
        REFUSED.call(scene, "reservation(" + reservation + ", " + what + ")", INVALID,
                g -> g.reservation(reservation, what));
    }

    private static void promise17Reservation() {
        CHECK.sentence("Promise 17", "INVALID_ARGUMENT if there is no such reservation or what is out of range");
        for (int what = -1; what <= 6; what++) {
            reservation(Refused.FRESH, 0, what);
            reservation(Refused.SOME, -1, what);
            reservation(Refused.SOME, 5, what);
            reservation(Refused.FULL, 16, what);
        }
        reservation(Refused.SOME, 0, -1);
        reservation(Refused.SOME, 0, 6);
        reservation(Refused.FULL, 15, -1);
        reservation(Refused.FULL, 15, 6);
        for (int far : Refused.FAR) {
            reservation(Refused.SOME, far, 0);
            reservation(Refused.FULL, far, 5);
            reservation(Refused.SOME, 2, far);
        }
    }

    private static void car(Scene scene, int plate, int what) {
        REFUSED.call(scene, "car(" + plate + ", " + what + ")", INVALID, g -> g.car(plate, what));
    }

    private static void promise18Car() {
        CHECK.sentence("Promise 18", "`plate`: 1 to 999");
        for (int what = 0; what <= 5; what++) {
            car(Refused.SOME, 0, what);
            car(Refused.SOME, 1000, what);
        }
        CHECK.sentence("Promise 18", "INVALID_ARGUMENT if an argument is out of range");
        for (int plate : new int[] {1, 2, 7, 999, 0, 1000}) {
            car(Refused.SOME, plate, -1);
            car(Refused.SOME, plate, 6);
        }
        for (int far : Refused.FAR) {
            car(Refused.SOME, far == 1 << 8 ? 1 << 10 : far, 0);
            car(Refused.SOME, 2, far);
            car(Refused.SOME, 3, far);
        }
        CHECK.sentence("Errors", NONE_LAST);
        car(Refused.FRESH, 0, 0);
        car(Refused.FRESH, 1, -1);
        car(Refused.FRESH, 1, 6);
        car(Refused.FRESH, 1000, 0);
    }

    private static void step(int tariff, int index, int what) {
        REFUSED.call(Refused.SOME, "step(" + tariff + ", " + index + ", " + what + ")", INVALID,
                g -> g.step(tariff, index, what));
    }

    private static void promise19Step() {
        CHECK.sentence("Promise 19", "`tariff`: 0 or 1");
        step(-1, 0, 0);
        step(2, 0, 0);
        CHECK.sentence("Promise 19", "INVALID_ARGUMENT if tariff or what is out of range or index is negative");
        step(0, -1, 0);
        step(0, 0, -1);
        step(0, 0, 3);
        for (int far : Refused.FAR) {
            step(far, 0, 0);
            step(0, 0, far);
        }
        for (int far : new int[] {Integer.MIN_VALUE, Integer.MIN_VALUE + 1, -(1 << 16), -9, -2}) {
            step(1, far, 0);
        }
        CHECK.sentence("Errors", NONE_LAST);
        step(2, 9, 0);
        step(-1, Integer.MAX_VALUE, 0);
        step(0, 5, 3);
        step(1, 1, -1);
    }

    private static void promise20Account() {
        CHECK.sentence("Promise 20", "INVALID_ARGUMENT if what is out of range");
        everywhere("account(-2)", INVALID, g -> g.account(-2));
        everywhere("account(4)", INVALID, g -> g.account(4));
        for (int far : Refused.FAR) {
            REFUSED.call(Refused.SOME, "account(" + far + ")", INVALID, g -> g.account(far));
        }
    }

    private static void promise21And22Bays() {
        CHECK.sentence("Promise 21", "`size`: 0 to 2");
        everywhere("nearest(-1)", INVALID, g -> g.nearest(-1));
        everywhere("nearest(3)", INVALID, g -> g.nearest(3));
        CHECK.sentence("Promise 21", "INVALID_ARGUMENT if size is out of range");
        for (int far : Refused.FAR) {
            REFUSED.call(Refused.SOME, "nearest(" + far + ")", INVALID, g -> g.nearest(far));
        }
        CHECK.sentence("Promise 22", "`level`: 0 to 4");
        everywhere("free(-1, 0)", INVALID, g -> g.free(-1, 0));
        everywhere("free(5, -1)", INVALID, g -> g.free(5, -1));
        CHECK.sentence("Promise 22", "`size`: 0 to 2 for bays of this size, -1 for all");
        everywhere("free(0, -2)", INVALID, g -> g.free(0, -2));
        everywhere("free(0, 3)", INVALID, g -> g.free(0, 3));
        CHECK.sentence("Promise 22", "INVALID_ARGUMENT if an argument is out of range");
        for (int far : Refused.FAR) {
            REFUSED.call(Refused.SOME, "free(" + far + ", -1)", INVALID, g -> g.free(far, -1));
            REFUSED.call(Refused.SOME, "free(0, " + far + ")", INVALID, g -> g.free(0, far));
        }
    }

    private static void promise23Fee() {
        CHECK.sentence("Promise 23", "`tariff`: 0 for the fee of the normal tariff, 1 for the sum of the tariff for "
                + "overstays");
        everywhere("fee(-1, 0)", INVALID, g -> g.fee(-1, 0));
        everywhere("fee(2, 0)", INVALID, g -> g.fee(2, 0));
        CHECK.sentence("Promise 23", "`minutes`: 0 to 20000");
        for (int row = 0; row <= 1; row++) {
            int tariff = row;
            everywhere("fee(" + tariff + ", -1)", INVALID, g -> g.fee(tariff, -1));
            everywhere("fee(" + tariff + ", 20001)", INVALID, g -> g.fee(tariff, 20001));
            CHECK.sentence("Promise 23", "INVALID_ARGUMENT if an argument is out of range");
            for (int far : Refused.FAR) {
                int minutes = far == 1 << 8 ? 1 << 15 : far;
                REFUSED.call(Refused.SOME, "fee " + minutes, INVALID, g -> g.fee(tariff, minutes));
                REFUSED.call(Refused.SOME, "fee of " + far, INVALID, g -> g.fee(far, 100 * tariff));
            }
        }
    }

    private static void promise24And25() {
        CHECK.sentence("Promise 24", "`plate`: 1 to 999");
        everywhere("minutesLeft(0)", INVALID, g -> g.minutesLeft(0));
        everywhere("minutesLeft(1000)", INVALID, g -> g.minutesLeft(1000));
        CHECK.sentence("Promise 24", "INVALID_ARGUMENT if plate is out of range");
        CHECK.due("minutesLeft(-1)", Refused.SOME.make().minutesLeft(-1), INVALID);
        for (int far : Refused.FAR) {
            int plate = far == 1 << 8 ? 1 << 10 : far;
            REFUSED.call(Refused.SOME, "minutesLeft(" + plate + ")", INVALID, g -> g.minutesLeft(plate));
        }
        CHECK.sentence("Promise 25", "INVALID_ARGUMENT if there is no such bay");
        REFUSED.call(Refused.FRESH, "freeFor(0)", INVALID, g -> g.freeFor(0));
        REFUSED.call(Refused.SOME, "freeFor(4)", INVALID, g -> g.freeFor(4));
        REFUSED.call(Refused.FULL, "freeFor(30)", INVALID, g -> g.freeFor(30));
        everywhere("freeFor(-1)", INVALID, g -> g.freeFor(-1));
        for (int far : Refused.FAR) {
            REFUSED.call(Refused.SOME, "freeFor(" + far + ")", INVALID, g -> g.freeFor(far));
        }
    }

    private static void promise26Earliest() {
        CHECK.sentence("Promise 26", "`size`: 0 to 2");
        everywhere("earliest(-1, 1)", INVALID, g -> g.earliest(-1, 1));
        everywhere("earliest(3, 1)", INVALID, g -> g.earliest(3, 1));
        CHECK.sentence("Promise 26", "`minutes`: 1 to 1440");
        everywhere("earliest(0, 0)", INVALID, g -> g.earliest(0, 0));
        everywhere("earliest(0, 1441)", INVALID, g -> g.earliest(0, 1441));
        CHECK.sentence("Promise 26", "INVALID_ARGUMENT if an argument is out of range");
        for (int far : Refused.FAR) {
            int minutes = far == 1 << 8 ? 1 << 12 : far;
            REFUSED.call(Refused.SOME, "earliest(" + far + ", 1)", INVALID, g -> g.earliest(far, 1));
            REFUSED.call(Refused.SOME, "earliest(0, " + minutes + ")", INVALID, g -> g.earliest(0, minutes));
        }
    }

    private static void promise27Undo() {
        CHECK.sentence("Promise 27", "ILLEGAL_STATE if there is none");
        REFUSED.call(Refused.FRESH, "undo()", STATE, ParkingGarage::undo);
        REFUSED.call(Refused.FRESH.typed("ramp 3;"), "undo()", STATE, ParkingGarage::undo);
        for (Scene scene : SCENES) {
            Scene emptied = scene;
            for (int saved = scene.make().count(12); saved > 0; saved--) {
                emptied = emptied.then(ParkingGarage::undo);
            }
            REFUSED.call(emptied, "undo() behind the last one", STATE, ParkingGarage::undo);
        }
    }

    /** NONE for the right arguments changes nothing, too. */
    private static void nothingThereIsNoError() {
        CHECK.sentence("Errors", "`NONE = -9`: There is no such value.");
        REFUSED.call(Refused.SOME, "bay without a car", NONE, g -> g.bay(2, 5));
        REFUSED.call(Refused.SOME, "bay that is not held", NONE, g -> g.bay(2, 6));
        REFUSED.call(Refused.SOME, "car that has left", NONE, g -> g.car(1, 0));
        REFUSED.call(Refused.SOME, "car without a reservation", NONE, g -> g.car(7, 3));
        REFUSED.call(Refused.SOME, "step behind the last one", NONE, g -> g.step(1, 1, 0));
        REFUSED.call(Refused.FULL, "no bay", NONE, g -> g.nearest(0));
        REFUSED.call(Refused.SOME, "minutes of a car that has left", NONE, g -> g.minutesLeft(1));
        REFUSED.call(Refused.SOME, "bay that none will hold", NONE, g -> g.freeFor(3));
        REFUSED.call(Refused.FULL, "no begin", NONE, g -> g.earliest(0, 1));
    }

    private static void looksChangeNothing() {
        CHECK.sentence("Undo", "Every successful call of addBay(), setBay(), setStep(), setNumber(), load(), "
                + "reserve(), cancel(), enter(), leave(), leaveLost() and pass() saves the state that preceded it");
        Scene.Call[] looks = {
            g -> g.count(0), g -> g.count(12), g -> g.bay(0, 3), g -> g.bay(1, 6), g -> g.reservation(0, 4),
            g -> g.car(2, 4), g -> g.car(2, 5), g -> g.step(0, 0, 1), g -> g.account(-1), g -> g.account(0),
            g -> g.nearest(0), g -> g.free(0, -1), g -> g.fee(0, 20000), g -> g.fee(1, 20000), g -> g.minutesLeft(2),
            g -> g.freeFor(0), g -> g.earliest(0, 1440), g -> g.earliest(2, 1),
        };
        for (Scene scene : SCENES) {
            for (int look = 0; look < looks.length; look++) {
                CHECK.holds("look " + look, scene.then(looks[look]).everything().equals(scene.everything()));
            }
        }
    }
}
