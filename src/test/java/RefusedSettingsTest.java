/** Promises 2 to 8: the calls that are refused, with the first code that applies, and that they change nothing. */
public final class RefusedSettingsTest {
    private static final int INVALID = -1;
    private static final int STATE = -2;
    private static final int ROOM = -3;
    private static final Check CHECK = new Check("RefusedSettingsTest");
    private static final Refused REFUSED = new Refused(CHECK);

    private RefusedSettingsTest() {
    }

    public static void main(String[] arguments) {
        scenes();
        promise2Ranges();
        promise2Codes();
        promise3Ranges();
        promise4Ranges();
        promise4Codes();
        promise5Ranges();
        promise6Codes();
        promise8Errors();
        promise8Range();
        CHECK.end();
    }

    /** What the scenes are made for stands in them. */
    private static void scenes() {
        int[] some = {4, 5, 4, 2, 2, 230, 50, 15, 10, 2000, 2500, 16, 6};
        int[] full = {30, 16, 30, 30, 0, 0, 50, 15, 10, 2000, 2500, 120, 6};
        int[] last = {2, 1, 1, 1, 0, 20000, 50, 15, 10, 2000, 2500, 7, 6};
        for (int what = 0; what <= 12; what++) {
            CHECK.due("count of some", Refused.SOME.make().count(what), some[what]);
            CHECK.due("count of full", Refused.FULL.make().count(what), full[what]);
            CHECK.due("count of the last minute", Refused.LAST.make().count(what), last[what]);
        }
        CHECK.due("the fifth step of the normal tariff", Refused.FULL.make().step(0, 4, 0), 1200);
        CHECK.due("the fifth step of the other one", Refused.FULL.make().step(1, 4, 0), 1200);
        CHECK.holds("a change is seen", !Refused.FULL.then(g -> g.setNumber(0, 51)).everything()
                .equals(Refused.FULL.then(g -> g.setNumber(0, 52)).everything()));
        CHECK.holds("a text is seen", !Refused.SOME.typed("l 0 5;").everything()
                .equals(Refused.SOME.typed("l 0 6;").everything()));
        CHECK.holds("a saved state is seen", !Refused.SOME.then(g -> g.setBay(0, 1)).everything()
                .equals(Refused.SOME.everything()));
    }

    private static void addBay(Scene scene, int due, int level, int position, int size) {
        REFUSED.call(scene, "addBay(" + level + ", " + position + ", " + size + ")", due,
                g -> g.addBay(level, position, size));
    }

    private static void promise2Ranges() {
        CHECK.sentence("Promise 2", "`level`: 0 to 4");
        addBay(Refused.SOME, INVALID, -1, 50, 1);
        addBay(Refused.SOME, INVALID, 5, 50, 1);
        CHECK.sentence("Promise 2", "`position`: 0 to 99");
        addBay(Refused.SOME, INVALID, 2, -1, 1);
        addBay(Refused.SOME, INVALID, 2, 100, 1);
        CHECK.sentence("Promise 2", "`size`: 0 to 2");
        addBay(Refused.SOME, INVALID, 2, 50, -1);
        addBay(Refused.SOME, INVALID, 2, 50, 3);
        CHECK.sentence("Promise 2", "INVALID_ARGUMENT if an argument is out of range");
        for (int far : Refused.FAR) {
            addBay(Refused.SOME, INVALID, far, 50, 1);
            addBay(Refused.SOME, INVALID, 2, far, 1);
            addBay(Refused.SOME, INVALID, 2, 50, far);
            addBay(Refused.FRESH, INVALID, far, far, far);
        }
    }

    private static void promise2Codes() {
        CHECK.sentence("Promise 2", "ILLEGAL_STATE if there is a bay at this place");
        addBay(Refused.SOME, STATE, 0, 0, 0);
        addBay(Refused.SOME, STATE, 0, 1, 2);
        addBay(Refused.SOME, STATE, 4, 99, 0);
        CHECK.sentence("Promise 2", "CAPACITY_EXCEEDED if there are 30 bays");
        addBay(Refused.FULL, ROOM, 0, 1, 0);
        addBay(Refused.FULL, ROOM, 4, 99, 2);
        CHECK.sentence("Errors", "If several error codes apply, the one that is named first in the description of the "
                + "method is returned");
        addBay(Refused.SOME, INVALID, 0, 0, 3);
        addBay(Refused.SOME, INVALID, 0, 0, -1);
        addBay(Refused.FULL, STATE, 0, 0, 0);
        addBay(Refused.FULL, STATE, 4, 29, 0);
        addBay(Refused.FULL, INVALID, 5, 0, 0);
        addBay(Refused.FULL, INVALID, 0, 0, 3);
    }

    private static void setBay(Scene scene, int bay, int on) {
        REFUSED.call(scene, "setBay(" + bay + ", " + on + ")", INVALID, g -> g.setBay(bay, on));
    }

    private static void promise3Ranges() {
        CHECK.sentence("Promise 3", "`bay`: a bay");
        setBay(Refused.FRESH, 0, 0);
        setBay(Refused.FRESH, 0, 1);
        setBay(Refused.FULL, 30, 0);
        setBay(Refused.FULL, 30, 1);
        CHECK.sentence("Promise 3", "`on`: 1 open, 0 closed");
        setBay(Refused.SOME, 0, -1);
        setBay(Refused.SOME, 0, 2);
        setBay(Refused.SOME, 3, 2);
        CHECK.sentence("Promise 3", "INVALID_ARGUMENT if there is no such bay or on is out of range");
        setBay(Refused.SOME, -1, 0);
        setBay(Refused.SOME, -1, 1);
        setBay(Refused.SOME, 4, 0);
        setBay(Refused.SOME, 4, 1);
        setBay(Refused.SOME, 4, 2);
        for (int far : Refused.FAR) {
            setBay(Refused.SOME, far, 0);
            setBay(Refused.SOME, 0, far);
            setBay(Refused.FULL, far, 1);
        }
    }

    private static void setStep(Scene scene, int due, int tariff, int start, int unit, int price) {
        REFUSED.call(scene, "setStep(" + tariff + ", " + start + ", " + unit + ", " + price + ")", due,
                g -> g.setStep(tariff, start, unit, price));
    }

    private static void promise4Ranges() {
        CHECK.sentence("Promise 4", "`tariff`: 0 or 1");
        setStep(Refused.SOME, INVALID, -1, 0, 1, 1);
        setStep(Refused.SOME, INVALID, 2, 0, 1, 1);
        CHECK.sentence("Promise 4", "`start`: 0 to 1440");
        setStep(Refused.SOME, INVALID, 0, -1, 1, 1);
        setStep(Refused.SOME, INVALID, 0, 1441, 1, 1);
        CHECK.sentence("Promise 4", "`unit`: 1 to 240, or 0 to remove the step (the price must be in its range all the "
                + "same)");
        setStep(Refused.SOME, INVALID, 0, 0, -1, 1);
        setStep(Refused.SOME, INVALID, 0, 0, 241, 1);
        setStep(Refused.SOME, INVALID, 0, 0, 0, -1);
        setStep(Refused.SOME, INVALID, 0, 0, 0, 5001);
        CHECK.sentence("Promise 4", "`price`: 0 to 5000");
        setStep(Refused.SOME, INVALID, 1, 0, 1, -1);
        setStep(Refused.SOME, INVALID, 1, 0, 1, 5001);
        CHECK.sentence("Promise 4", "INVALID_ARGUMENT if an argument is out of range");
        for (int far : Refused.FAR) {
            setStep(Refused.SOME, INVALID, far, 0, 1, 1);
            setStep(Refused.SOME, INVALID, 0, far == 1 << 8 ? 1 << 17 : far, 1, 1);
            setStep(Refused.SOME, INVALID, 0, 0, far, 1);
            setStep(Refused.SOME, INVALID, 0, 0, 1, far == 1 << 8 ? 1 << 17 : far);
        }
    }

    private static void promise4Codes() {
        CHECK.sentence("Promise 4", "ILLEGAL_STATE if a step is to be removed that there is not");
        setStep(Refused.FRESH, STATE, 0, 1, 0, 0);
        setStep(Refused.FRESH, STATE, 1, 1440, 0, 5000);
        setStep(Refused.SOME, STATE, 0, 89, 0, 0);
        setStep(Refused.SOME, STATE, 0, 91, 0, 0);
        setStep(Refused.SOME, STATE, 1, 90, 0, 0);
        setStep(Refused.SOME.then(g -> g.setStep(1, 0, 0, 0)), STATE, 1, 0, 0, 0);
        CHECK.sentence("Promise 4", "CAPACITY_EXCEEDED if there would be 6 steps");
        for (int start : new int[] {1, 299, 301, 1199, 1201, 1440}) {
            setStep(Refused.FULL, ROOM, 0, start, 1, 0);
            setStep(Refused.FULL, ROOM, 1, start, 240, 5000);
        }
        CHECK.sentence("Errors", "If several error codes apply, the one that is named first in the description of the "
                + "method is returned");
        setStep(Refused.FULL, STATE, 0, 1, 0, 0);
        setStep(Refused.FULL, STATE, 1, 1440, 0, 5000);
        setStep(Refused.FULL, INVALID, 0, 1, 0, 5001);
        setStep(Refused.FULL, INVALID, 0, 1, 1, 5001);
        setStep(Refused.FULL, INVALID, 0, 1, 241, 0);
        setStep(Refused.FULL, INVALID, 0, 1441, 1, 0);
        setStep(Refused.FULL, INVALID, 2, 1, 1, 0);
        setStep(Refused.FRESH, INVALID, 0, 1, 0, -1);
        setStep(Refused.FRESH, INVALID, 0, 1441, 0, 0);
        setStep(Refused.FRESH, INVALID, 2, 1, 0, 0);
    }

    private static void setNumber(Scene scene, int what, int value) {
        REFUSED.call(scene, "setNumber(" + what + ", " + value + ")", INVALID, g -> g.setNumber(what, value));
    }

    private static void promise5Ranges() {
        CHECK.sentence("Promise 5", "`what`: 0 R, 1 H, 2 the grace, 3 X, 4 the lost fee");
        setNumber(Refused.SOME, -1, 1);
        setNumber(Refused.SOME, 5, 1);
        CHECK.sentence("Promise 5", "INVALID_ARGUMENT if what or value is out of range");
        int[] least = {1, 0, 0, 0, 0};
        int[] greatest = {200, 120, 60, 99999, 99999};
        for (int what = 0; what <= 4; what++) {
            setNumber(Refused.SOME, what, least[what] - 1);
            setNumber(Refused.SOME, what, greatest[what] + 1);
            setNumber(Refused.FULL, what, greatest[what] + 1);
            setNumber(Refused.SOME, what, Integer.MIN_VALUE);
            setNumber(Refused.SOME, what, Integer.MAX_VALUE);
            setNumber(Refused.SOME, what, greatest[what] + (1 << 17));
        }
        for (int far : Refused.FAR) {
            setNumber(Refused.SOME, far, 1);
            setNumber(Refused.SOME, far, far);
        }
    }

    private static void append(Scene scene, int due, int character) {
        REFUSED.call(scene, "appendCharacter(" + character + ")", due, g -> g.appendCharacter(character));
    }

    private static void promise6Codes() {
        CHECK.sentence("Promise 6", "`character`: character code, 0 to 255");
        append(Refused.SOME, INVALID, -1);
        append(Refused.SOME, INVALID, 256);
        append(Refused.SOME, INVALID, 256 + ' ');
        append(Refused.SOME, INVALID, 65536 + ' ');
        CHECK.sentence("Promise 6", "INVALID_ARGUMENT if character is out of range");
        for (int far : Refused.FAR) {
            append(Refused.SOME, INVALID, far);
            append(Refused.FRESH, INVALID, far);
        }
        CHECK.sentence("Promise 6", "CAPACITY_EXCEEDED if the text has 120 characters");
        append(Refused.FULL, ROOM, 0);
        append(Refused.FULL, ROOM, ' ');
        append(Refused.FULL, ROOM, 255);
        CHECK.sentence("Errors", "If several error codes apply, the one that is named first in the description of the "
                + "method is returned");
        append(Refused.FULL, INVALID, -1);
        append(Refused.FULL, INVALID, 256);
    }

    private static void load(Scene scene, String text, int position) {
        Scene typed = scene.then(ParkingGarage::clearText).typed(text);
        REFUSED.call(typed, "load() of \"" + text + "\"", -10 - position, ParkingGarage::load);
    }

    private static void promise8Errors() {
        CHECK.sentence("Promise 8", "-10 minus the error position if the text has an error (then nothing changes, and "
                + "the text is kept)");
        load(Refused.SOME, ";", 0);
        load(Refused.SOME, "ramp 8;grace 9;step over 0 1 1;step normal 7 7 7;bay large 2 2;ramp 201;", 68);
        load(Refused.SOME, "ramp 8; bay small 2 2; bay small 2 2;", 35);
        load(Refused.SOME, "ramp 8; bay small 0 0;", 20);
        load(Refused.SOME, "step over 1 1 1;step over 2 1 1;step over 3 1 1;step over 4 1 1;step over 5 1 1;", 74);
        load(Refused.SOME, "ramp 8; grace", 13);
        load(Refused.FULL, "ramp 8; grace 9; bay small 0 1;", 17);
        load(Refused.FULL, "ramp 8; step over 0 9 9; step over 1 9 9;", 35);
        REFUSED.call(Refused.SOME, "load() of a text that is not whole", -10 - 12, ParkingGarage::load);
    }

    /** The first and the last position that an error can have. */
    private static void promise8Range() {
        CHECK.sentence("Text", "If the text ends where another token must come, it is the length of the text.");
        load(Refused.SOME, " ".repeat(115) + "grace", 120);
        load(Refused.SOME, "ramp" + " ".repeat(116), 120);
        load(Refused.SOME, "bay", 3);
        CHECK.sentence("Promise 8", "-10 minus the error position if the text has an error (then nothing changes, and "
                + "the text is kept)");
        load(Refused.SOME, "x".repeat(120), 0);
        load(Refused.SOME, " ".repeat(119) + "x", 119);
    }
}
