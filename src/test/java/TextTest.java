/** Promises 6 to 8: appendCharacter, clearText, load. */
public final class TextTest {
    private static final Check CHECK = new Check("TextTest");
    private static final String FULL =
            "bay small 0 0;bay small 0 1;bay small 0 2;bay small 0 3;bay small 0 4;bay small 0 5;";

    private TextTest() {
    }

    public static void main(String[] arguments) {
        promise6AppendCharacter();
        promise7ClearText();
        promise8Items();
        promise8Spaces();
        promise8Grammar();
        promise8Ranges();
        promise8Room();
        promise8NothingChanges();
        promise8State();
        promise8Characters();
        CHECK.end();
    }

    private static void promise6AppendCharacter() {
        ParkingGarage g = new ParkingGarage();
        CHECK.due("code -1", g.appendCharacter(-1), -1);
        CHECK.due("code 256", g.appendCharacter(256), -1);
        CHECK.due("code far", g.appendCharacter(Integer.MAX_VALUE), -1);
        CHECK.due("code far below", g.appendCharacter(Integer.MIN_VALUE), -1);
        CHECK.due("a code that a char would take for a space", g.appendCharacter(65536 + 32), -1);
        CHECK.due("length", g.count(11), 0);
        CHECK.due("code 0", g.appendCharacter(0), 1);
        CHECK.due("code 255", g.appendCharacter(255), 2);
        for (int length = 3; length <= 120; length++) {
            CHECK.due("length", g.appendCharacter('a'), length);
        }
        CHECK.due("no room", g.appendCharacter('a'), -3);
        CHECK.due("invalid, and no room", g.appendCharacter(256), -1);
        CHECK.due("length", g.count(11), 120);
        CHECK.due("nothing saved", g.count(12), 0);
    }

    private static void promise7ClearText() {
        ParkingGarage g = new ParkingGarage();
        CHECK.due("clear nothing", g.clearText(), 0);
        Check.type(g, "ramp 9;");
        CHECK.due("clear", g.clearText(), 7);
        CHECK.due("length", g.count(11), 0);
        CHECK.due("clear again", g.clearText(), 0);
        CHECK.due("nothing saved", g.count(12), 0);
        CHECK.due("the text was empty", g.load(), 0);
        CHECK.due("R", g.count(6), 50);
    }

    private static void promise8Items() {
        ParkingGarage g = new ParkingGarage();
        CHECK.due("bays", Check.load(g, "bay small 0 0;bay medium 4 99;bay large 1 20;"), 3);
        int[][] bays = {{0, 0, 0, 0, 1}, {4, 99, 1, 299, 1}, {1, 20, 2, 70, 1}};
        for (int bay = 0; bay < 3; bay++) {
            for (int what = 0; what < 5; what++) {
                CHECK.due("bay(" + bay + ", " + what + ")", g.bay(bay, what), bays[bay][what]);
            }
        }
        CHECK.due("length", g.count(11), 0);
        CHECK.due("steps", Check.load(g, "step normal 1440 240 5000;step over 0 1 0;step normal 30 7 9;"), 3);
        int[][] normal = {{0, 60, 200}, {30, 7, 9}, {1440, 240, 5000}};
        for (int index = 0; index < 3; index++) {
            for (int what = 0; what < 3; what++) {
                CHECK.due("step(0, " + index + ", " + what + ")", g.step(0, index, what), normal[index][what]);
            }
        }
        CHECK.due("in place", g.step(1, 0, 1), 1);
        CHECK.due("its price", g.step(1, 0, 2), 0);
        CHECK.due("one step", g.step(1, 1, 0), -9);
        CHECK.due("numbers", Check.load(g, "grace 60;ramp 200;grace 0;"), 3);
        CHECK.due("the grace", g.count(8), 0);
        CHECK.due("R", g.count(6), 200);
        CHECK.due("least and greatest", Check.load(g, "ramp 1;grace 60;"), 2);
        CHECK.due("the grace", g.count(8), 60);
        CHECK.due("R", g.count(6), 1);
        CHECK.due("an empty text", g.load(), 0);
        CHECK.due("saved", g.count(12), 5);
    }

    private static void promise8Spaces() {
        ParkingGarage g = new ParkingGarage();
        CHECK.due("spaces alone", Check.load(g, "    "), 0);
        CHECK.due("length", g.count(11), 0);
        CHECK.due("many spaces", Check.load(g, "  ramp   7  ;   grace 3  ;  "), 2);
        CHECK.due("R", g.count(6), 7);
        CHECK.due("no space where none is needed", Check.load(g, "ramp8;bay small4 7;step over2 3 4;"), 3);
        CHECK.due("R", g.count(6), 8);
        CHECK.due("level", g.bay(0, 0), 4);
        CHECK.due("step", g.step(1, 1, 0), 2);
        CHECK.due("two words in one", Check.load(g, "baysmall 0 1;"), -10);
        CHECK.due("two numbers in one", Check.load(g, "bay small 01;"), -20);
        CHECK.due("two numbers in one, in range", Check.load(g, "bay small 1 1;bay small 23;"), -34);
        CHECK.due("as one number, and none behind", Check.load(g, "bay small 12;"), -20);
        CHECK.due("a tabulator is no space", Check.load(g, "ramp\t7;"), -14);
        CHECK.due("a line's end is no space", Check.load(g, "ramp 7;\n"), -17);
    }

    private static void promise8Grammar() {
        Object[][] rows = {
            {"tiny", 0}, {"7", 0}, {";", 0}, {"  ;", 2}, {"A", 0}, {"Bay small 0 0;", 0}, {"bAy small 0 0;", 0},
            {"bay sMall 0 0;", 4}, {"bay Small 0 0;", 4}, {"bay smallA 0 0;", 9},
            {"small 0 0;", 0}, {"normal 0 1 1;", 0}, {"ba", 0}, {"bays small 0 0;", 0}, {"\0", 0}, {"\u00ff", 0},
            {"bay", 3}, {"bay ", 4}, {"bay;", 3}, {"bay 0 0;", 4}, {"bay tiny 0 0;", 4}, {"bay normal 0 0;", 4},
            {"bay small", 9}, {"bay small;", 9}, {"bay small large 0 0;", 10}, {"bay small 0", 11},
            {"bay small 0;", 11}, {"bay small 0 x;", 12}, {"bay small 0 0", 13}, {"bay small 0 0  ", 15},
            {"bay small 0 0 0;", 14}, {"bay small 0 0 bay", 14}, {"bay small 0 0:", 13}, {"bay small -1 0;", 10},
            {"step", 4}, {"step;", 4}, {"step 0 0 1 1;", 5}, {"step small 0 1 1;", 5}, {"step norma 0 1 1;", 5},
            {"step normal", 11}, {"step normal over 0 1 1;", 12}, {"step over 0", 11}, {"step over 0;", 11},
            {"step over 0 1", 13}, {"step over 0 1;", 13}, {"step over 0 1 1", 15}, {"step over 0 1 1 1;", 16},
            {"step over 0 a 1;", 12}, {"step over 0 1 a;", 14}, {"step over a 1 1;", 10},
            {"grace", 5}, {"grace;", 5}, {"grace over;", 6}, {"grace 1", 7}, {"grace 1 1;", 8}, {"grace 1grace 1;", 7},
            {"ramp", 4}, {"ramp;", 4}, {"ramp x;", 5}, {"ramp 1", 6}, {"ramp 1,", 6}, {"ramp 1.5;", 6}, {"ramp 1;;", 7},
            {"ramp 1;ramp", 11}, {"ramp 1; x", 8}, {"hold 1;", 0}, {"ramp 1;lost 3;", 7},
            {"ramps 1;", 0}, {"ram 1;", 0},
            {"lay small 0 0;", 0}, {"bax small 0 0;", 0}, {"stop over 0 1 1;", 0}, {"atep over 0 1 1;", 0},
            {"trace 1;", 0}, {"gracf 1;", 0}, {"camp 1;", 0}, {"rams 1;", 0}, {"bay xmall 0 0;", 4},
            {"bay smalk 0 0;", 4}, {"bay nedium 0 0;", 4}, {"bay mediun 0 0;", 4}, {"bay barge 0 0;", 4},
            {"bay largo 0 0;", 4}, {"step formal 0 1 1;", 5}, {"step normaz 0 1 1;", 5}, {"step aver 0 1 1;", 5},
            {"step oves 0 1 1;", 5},
        };
        for (Object[] row : rows) {
            ParkingGarage g = new ParkingGarage();
            String text = (String) row[0];
            CHECK.due("load of \"" + text + "\"", Check.load(g, text), -10 - (Integer) row[1]);
            CHECK.due("the text is kept", g.count(11), text.length());
            CHECK.due("the same once more", g.load(), -10 - (Integer) row[1]);
            CHECK.due("nothing saved", g.count(12), 0);
        }
    }

    private static void promise8Ranges() {
        Object[][] rows = {
            {"bay small 5 0;", 10}, {"bay small 4 100;", 12}, {"bay small 00 0;", 10}, {"bay small 0 00;", 12},
            {"bay small 0 09;", 12}, {"step normal 1441 1 1;", 12}, {"step over 01 1 1;", 10},
            {"step normal 0 0 1;", 14}, {"step normal 0 241 1;", 14}, {"step normal 0 01 1;", 14},
            {"step normal 0 1 5001;", 16}, {"step normal 0 1 00;", 16}, {"grace 61;", 6}, {"grace 00;", 6},
            {"grace 010;", 6}, {"ramp 0;", 5}, {"ramp 201;", 5}, {"ramp 01;", 5}, {"ramp 4294967297;", 5},
            {"ramp 2147483648;", 5}, {"ramp 18446744073709551617;", 5}, {"grace 4294967296;", 6},
            {"ramp 1" + "0".repeat(100) + "1;", 5}, {"ramp " + "0".repeat(100) + "1;", 5},
            {"grace " + "9".repeat(114), 6},
        };
        for (Object[] row : rows) {
            String text = (String) row[0];
            CHECK.due("load of \"" + text + "\"", Check.load(new ParkingGarage(), text), -10 - (Integer) row[1]);
        }
    }

    private static void promise8Room() {
        ParkingGarage g = new ParkingGarage();
        CHECK.due("six bays", Check.load(g, FULL), 6);
        CHECK.due("a place taken", Check.load(g, "bay large 0 5;"), -22);
        CHECK.due("a place taken by an item ahead", Check.load(g, "bay large 1 5;bay small 1 5;"), -36);
        CHECK.due("the place of another level", Check.load(g, "bay large 1 5;"), 1);
        for (int position = 0; position < 22; position++) {
            g.addBay(2, position, 0);
        }
        CHECK.due("one more, and none behind it", Check.load(g, "bay small 3 0;bay small 3 1;"), -24);
        CHECK.due("29 bays", g.count(0), 29);
        CHECK.due("the thirtieth", Check.load(g, "bay small 3 0;"), 1);
        CHECK.due("no room, whatever stands behind", Check.load(g, "  bay tiny"), -12);
        CHECK.due("no room, at a place that is taken", Check.load(g, "bay small 3 0;"), -10);

        ParkingGarage s = new ParkingGarage();
        String four = "step over 1 1 1;step over 2 1 1;step over 3 1 1;step over 4 1 1;";
        CHECK.due("five steps", Check.load(s, four), 4);
        CHECK.due("a sixth", Check.load(s, "step over 5 1 1;"), -20);
        CHECK.due("a sixth, wrong behind", Check.load(s, "step over 5 0;"), -20);
        CHECK.due("in place, though full", Check.load(s, "step over 4 9 1;"), 1);
        CHECK.due("its unit", s.step(1, 4, 1), 9);
        CHECK.due("the other tariff", Check.load(s, "step normal 5 1 1;"), 1);
        s.setStep(1, 4, 0, 0);
        CHECK.due("a sixth behind the fifth", Check.load(s, "step over 5 1 1;step over 6 1 1;"), -36);
    }

    private static void promise8NothingChanges() {
        ParkingGarage g = new ParkingGarage();
        String before = Check.look(g);
        String text = "bay small 0 0;step over 1 1 1;grace 1;ramp 1;ramp 0;";
        CHECK.due("an error at the end", Check.load(g, text), -10 - 50);
        CHECK.holds("nothing changes", before.equals(Check.look(g)));
        CHECK.due("nothing saved", g.count(12), 0);
        CHECK.due("the text is kept", g.clearText(), text.length());
        CHECK.due("and the next starts anew", Check.load(g, "ramp 3;"), 1);
        CHECK.due("bays", g.count(0), 0);
        CHECK.due("the grace", g.count(8), 10);
    }

    /** A load keeps all that is no setting. */
    private static void promise8State() {
        ParkingGarage g = new ParkingGarage();
        g.addBay(0, 0, 2);
        g.addBay(0, 1, 2);
        g.setBay(1, 0);
        g.enter(7, 1);
        g.pass(100);
        g.setBay(1, 1);
        g.reserve(8, 0, 200, 300);
        String before = Check.look(g);
        CHECK.due("load", Check.load(g, " "), 0);
        CHECK.holds("kept", before.equals(Check.look(g)));
        CHECK.due("load a bay", Check.load(g, "bay small 0 2;"), 1);
        CHECK.due("cars", g.count(3), 1);
        CHECK.due("the entry", g.car(7, 1), 0);
        CHECK.due("reservations", g.count(1), 1);
        CHECK.due("the time", g.count(5), 100);
    }

    /** At the place of each character of an item, each other code from 0 to 255 is the error (or is fine). */
    private static void promise8Characters() {
        for (int code = 0; code <= 255; code++) {
            ParkingGarage g = new ParkingGarage();
            g.appendCharacter(code);
            CHECK.due("code " + code + " alone", g.load(), code == 32 ? 0 : -10);
            ParkingGarage h = new ParkingGarage();
            Check.type(h, "ramp 7");
            h.appendCharacter(code);
            boolean digit = code >= '0' && code <= '9';
            int want = code == 32 || digit ? -17 : -16;
            CHECK.due("code " + code + " behind a number", h.load(), code == ';' ? 1 : want);
        }
    }
}
