/** The sentences on the text: its length, tokens, numbers, spaces and items, and where an error is. */
public final class EdgesTextTest {
    private static final int INVALID = -1;
    private static final int ROOM = -3;
    private static final int NONE = -9;
    private static final String AT_ERROR = "the error position is the offset (from 0) of the first character of the "
            + "first token that is not allowed where it stands: by the grammar";
    private static final String RANGE = "a number that is out of its range (however long it is) or has a 0 ahead";
    private static final Check CHECK = new Check("EdgesTextTest");

    private EdgesTextTest() {
    }

    public static void main(String[] arguments) {
        length();
        clear();
        fullText();
        noItems();
        numberOfItems();
        bayItem();
        stepItem();
        graceAndRamp();
        letters();
        digits();
        numberRanges();
        longNumbers();
        zeroAhead();
        spaces();
        spacesNeeded();
        order();
        noRoomForBay();
        placeTaken();
        sixthStep();
        firstError();
        otherWords();
        misspelledWords();
        otherCharacters();
        cut();
        kept();
        CHECK.end();
    }

    private static int load(String text) {
        return Check.load(new ParkingGarage(), text);
    }

    private static void error(String text, int position) {
        ParkingGarage g = new ParkingGarage();
        CHECK.due("load of \"" + text + "\"", Check.load(g, text), -10 - position);
        CHECK.due("the text is kept", g.count(11), text.length());
    }

    private static void fine(String text, int items) {
        ParkingGarage g = new ParkingGarage();
        CHECK.due("load of \"" + text + "\"", Check.load(g, text), items);
        CHECK.due("the text is empty", g.count(11), 0);
        CHECK.due("saved", g.count(12), 1);
    }

    private static void length() {
        CHECK.sentence("Promise 6", "Returns the new length of the text");
        ParkingGarage g = new ParkingGarage();
        for (int length = 1; length <= 120; length++) {
            CHECK.due("append", g.appendCharacter(256 * length / 121), length);
        }
        CHECK.sentence("Text", "Settings can be read from a text of at most 120 characters");
        CHECK.due("the 121st", g.appendCharacter(0), ROOM);
        CHECK.due("the 121st again", g.appendCharacter(255), ROOM);
        CHECK.due("length", g.count(11), 120);
        CHECK.due("clear", g.clearText(), 120);
        CHECK.due("room again", g.appendCharacter(0), 1);
        CHECK.sentence("Promise 6", "`character`: character code, 0 to 255");
        CHECK.due("code 0", g.appendCharacter(0), 2);
        CHECK.due("code 255", g.appendCharacter(255), 3);
        CHECK.due("code -1", g.appendCharacter(-1), INVALID);
        CHECK.due("code 256", g.appendCharacter(256), INVALID);
        CHECK.due("length", g.count(11), 3);
    }

    private static void clear() {
        CHECK.sentence("Promise 7", "Returns the previous length of the text.");
        ParkingGarage g = new ParkingGarage();
        CHECK.due("an empty text", g.clearText(), 0);
        g.appendCharacter('x');
        CHECK.due("a character", g.clearText(), 1);
        Check.type(g, " ".repeat(120));
        CHECK.due("a full text", g.clearText(), 120);
        CHECK.sentence("Promise 7", "Makes the text empty.");
        CHECK.due("length", g.count(11), 0);
        CHECK.due("an empty text again", g.clearText(), 0);
        Check.type(g, "ramp 7;");
        g.clearText();
        Check.type(g, "grace 7;");
        CHECK.due("nothing of it is left", g.load(), 1);
        CHECK.due("R", g.count(6), 50);
    }

    /** The last character of a full text is read, and the one that had no room is not. */
    private static void fullText() {
        CHECK.sentence("Text", "Settings can be read from a text of at most 120 characters");
        ParkingGarage g = new ParkingGarage();
        Check.type(g, " ".repeat(114) + "ramp7;");
        CHECK.due("length", g.count(11), 120);
        CHECK.due("no room for one more", g.appendCharacter('x'), ROOM);
        CHECK.due("load", g.load(), 1);
        CHECK.due("R", g.count(6), 7);
        Check.type(g, " ".repeat(114) + "ramp 8");
        CHECK.due("no room for its end", g.appendCharacter(';'), ROOM);
        CHECK.due("an error at the text's end", g.load(), -10 - 120);
        CHECK.due("R", g.count(6), 7);
        CHECK.due("clear", g.clearText(), 120);
        Check.type(g, "ramp 9;");
        CHECK.due("nothing behind the text is read", g.load(), 1);
        CHECK.due("R", g.count(6), 9);
    }

    private static void noItems() {
        CHECK.sentence("Text", "a sequence of items, perhaps empty (this is a successful call, too), each of which "
                + "ends with \";\"");
        fine("", 0);
        fine(" ", 0);
        fine(" ".repeat(119), 0);
        fine(" ".repeat(120), 0);
        ParkingGarage g = new ParkingGarage();
        for (int call = 1; call <= 7; call++) {
            CHECK.due("nothing", g.load(), 0);
            CHECK.due("is saved", g.count(12), Math.min(call, 6));
        }
        error("ramp 7", 6);
        error("ramp 7 ", 7);
        error("ramp 7,", 6);
        error("ramp 7;;", 7);
        error(";", 0);
    }

    private static void numberOfItems() {
        CHECK.sentence("Promise 8", "Returns the number of items");
        for (int items = 0; items <= 20; items++) {
            fine("ramp7;".repeat(items), items);
        }
        CHECK.sentence("Promise 8", "Reads the text as settings. The text becomes empty.");
        ParkingGarage g = new ParkingGarage();
        CHECK.due("load", Check.load(g, "grace 1;ramp 2;step over 0 3 4;bay large 3 5;"), 4);
        CHECK.due("the grace", g.count(8), 1);
        CHECK.due("R", g.count(6), 2);
        CHECK.due("the step", g.step(1, 0, 1), 3);
        CHECK.due("the bay", g.bay(0, 3), 11);
        CHECK.due("length", g.count(11), 0);
        CHECK.due("there is nothing more to read", g.load(), 0);
    }

    private static void bayItem() {
        CHECK.sentence("Text", "\"bay\" KIND LEVEL POSITION    KIND is \"small\", \"medium\" or \"large\"; an open "
                + "bay is added");
        String[] kinds = {"small", "medium", "large"};
        int[][] places = {{0, 0}, {0, 99}, {4, 0}, {4, 99}, {1, 9}, {3, 10}};
        for (int size = 0; size <= 2; size++) {
            for (int[] place : places) {
                ParkingGarage g = new ParkingGarage();
                CHECK.due("bay", Check.load(g, "bay " + kinds[size] + " " + place[0] + " " + place[1] + ";"), 1);
                int[] properties = {place[0], place[1], size, 50 * place[0] + place[1], 1, NONE, NONE};
                for (int what = 0; what <= 6; what++) {
                    CHECK.due("its property " + what, g.bay(0, what), properties[what]);
                }
                CHECK.due("one bay", g.count(0), 1);
            }
        }
        error("bay tiny 0 0;", 4);
        error("bay 0 0;", 4);
        error("bay normal 0 0;", 4);
        error("bay smalls 0 0;", 4);
        error("bay mediu 0 0;", 4);
        error("bay small large 0 0;", 10);
        error("bay small 0;", 11);
        error("bay small 0 0 0;", 14);
    }

    private static void stepItem() {
        CHECK.sentence("Text", "\"step\" TARIFF START UNIT PRICE    TARIFF is \"normal\" or \"over\", UNIT is 1 to "
                + "240; in place of a step with this start");
        String[] tariffs = {"normal", "over"};
        int[][] rows = {{0, 1, 0}, {0, 240, 5000}, {1440, 1, 5000}, {1440, 240, 0}, {7, 30, 9}};
        for (int tariff = 0; tariff <= 1; tariff++) {
            for (int[] row : rows) {
                ParkingGarage g = new ParkingGarage();
                String text = "step " + tariffs[tariff] + " " + row[0] + " " + row[1] + " " + row[2] + ";";
                CHECK.due(text, Check.load(g, text), 1);
                int index = row[0] == 0 ? 0 : 1;
                for (int what = 0; what <= 2; what++) {
                    CHECK.due(text + " " + what, g.step(tariff, index, what), row[what]);
                }
                CHECK.due("the number of steps", g.step(tariff, index + 1, 0), NONE);
                CHECK.due("the other tariff", g.step(1 - tariff, 0, 1), tariff == 0 ? 15 : 60);
                CHECK.due("its number of steps", g.step(1 - tariff, 1, 0), NONE);
            }
        }
        error("step over 0 0 5;", 12);
        error("step over 0 241 5;", 12);
        error("step normals 0 1 1;", 5);
        error("step overs 0 1 1;", 5);
        error("step 0 0 1 1;", 5);
        error("step small 0 1 1;", 5);
        error("step over 0 1;", 13);
        error("step over 0 1 1 1;", 16);
    }

    private static void graceAndRamp() {
        CHECK.sentence("Text", "\"grace\" MINUTES      \"ramp\" R");
        for (int grace : new int[] {0, 1, 9, 10, 59, 60}) {
            ParkingGarage g = new ParkingGarage();
            CHECK.due("grace " + grace, Check.load(g, "grace " + grace + ";"), 1);
            CHECK.due("the grace", g.count(8), grace);
            CHECK.due("R", g.count(6), 50);
        }
        for (int ramp : new int[] {1, 2, 9, 10, 199, 200}) {
            ParkingGarage g = new ParkingGarage();
            CHECK.due("ramp " + ramp, Check.load(g, "ramp " + ramp + ";"), 1);
            CHECK.due("R", g.count(6), ramp);
            CHECK.due("the grace", g.count(8), 10);
        }
        error("grace 1 1;", 8);
        error("ramp 1 1;", 7);
        error("grace;", 5);
        error("ramp;", 4);
    }

    private static void letters() {
        CHECK.sentence("Text", "Words are longest sequences of letters a to z");
        error("`ramp 7;", 0);
        error("ramp` 7;", 4);
        error("{ramp 7;", 0);
        error("ramp{ 7;", 4);
        error("aramp 7;", 0);
        error("zramp 7;", 0);
        error("rampa 7;", 0);
        error("rampz 7;", 0);
        error("Ramp 7;", 0);
        error("rAmp 7;", 0);
        error("RAMP 7;", 0);
        error("rampA 7;", 4);
        error("rampZ 7;", 4);
        error("ra mp 7;", 0);
        error("gracegrace 7;", 0);
        error("ramp 7;rampramp 7;", 7);
        error("\u00e1ramp 7;", 0);
        error("ramp\u00e1 7;", 4);
    }

    private static void digits() {
        CHECK.sentence("Text", "numbers are longest sequences of digits");
        error("ramp /7;", 5);
        error("ramp 7/;", 6);
        error("ramp :7;", 5);
        error("ramp 7:;", 6);
        error("ramp 7a;", 6);
        error("ramp a7;", 5);
        error("ramp -7;", 5);
        error("ramp +7;", 5);
        error("ramp 7.0;", 6);
        error("ramp 7 7;", 7);
        error("ramp 201;", 5);
        error("bay small 12;", 10);
        error("ramp \u00b2;", 5);
        for (int digit = 1; digit <= 9; digit++) {
            ParkingGarage g = new ParkingGarage();
            CHECK.due("a digit", Check.load(g, "ramp 1" + digit + ";"), 1);
            CHECK.due("R", g.count(6), 10 + digit);
            CHECK.due("two digits", Check.load(g, "ramp" + digit + "0;"), 1);
            CHECK.due("R", g.count(6), 10 * digit);
        }
    }

    /** Each place of a number: the text ahead of it, the text behind it, its least and its greatest value. */
    private static final Object[][] NUMBERS = {
        {"bay small ", " 5;", 0, 4}, {"bay large 3 ", ";", 0, 99}, {"step normal ", " 1 1;", 0, 1440},
        {"step over ", " 1 1;", 0, 1440}, {"step over 5 ", " 7;", 1, 240}, {"step normal 5 7 ", ";", 0, 5000},
        {"grace ", ";", 0, 60}, {"ramp ", ";", 1, 200},
    };

    private static void numberRanges() {
        CHECK.sentence("Text", RANGE);
        for (Object[] row : NUMBERS) {
            String ahead = (String) row[0];
            String behind = (String) row[1];
            int least = (Integer) row[2];
            int greatest = (Integer) row[3];
            fine(ahead + least + behind, 1);
            fine(ahead + (least + 1) + behind, 1);
            fine(ahead + (greatest - 1) + behind, 1);
            fine(ahead + greatest + behind, 1);
            error(ahead + (greatest + 1) + behind, ahead.length());
            error(ahead + (10 * greatest) + behind, ahead.length());
            error(ahead + "-1" + behind, ahead.length());
            if (least > 0) {
                error(ahead + (least - 1) + behind, ahead.length());
            }
        }
    }

    /** Numbers that would be in their range if they wrapped around at 8, 16, 32 or 64 bits. */
    private static void longNumbers() {
        CHECK.sentence("Text", "(however long it is)");
        String[] wraps = {"65536", "4294967296", "18446744073709551616", "340282366920938463463374607431768211456"};
        for (Object[] row : NUMBERS) {
            String ahead = (String) row[0];
            String behind = (String) row[1];
            for (String wrap : wraps) {
                error(ahead + wrap + behind, ahead.length());
                error(ahead + wrap.substring(0, wrap.length() - 1) + "9" + behind, ahead.length());
            }
            error(ahead + "2147483647" + behind, ahead.length());
            error(ahead + "2147483648" + behind, ahead.length());
            error(ahead + "1" + "0".repeat(90) + behind, ahead.length());
            error(ahead + "9".repeat(119 - ahead.length()) + behind.substring(behind.length() - 1), ahead.length());
            error(ahead + "9".repeat(120 - ahead.length()), ahead.length());
        }
    }

    private static void zeroAhead() {
        CHECK.sentence("Text", "which do not begin with 0 unless they are the single digit 0.");
        for (Object[] row : NUMBERS) {
            String ahead = (String) row[0];
            String behind = (String) row[1];
            error(ahead + "00" + behind, ahead.length());
            error(ahead + "01" + behind, ahead.length());
            error(ahead + "0" + row[3] + behind, ahead.length());
            error(ahead + "0".repeat(80) + "1" + behind, ahead.length());
            error(ahead + "0".repeat(80) + behind, ahead.length());
        }
        fine("bay small 0 0;grace 0;step over 0 1 0;", 3);
        fine("bay small 0 10;ramp 100;step over 10 10 10;", 3);
    }

    private static void spaces() {
        CHECK.sentence("Text", "Spaces (code 32) may stand ahead of, between and behind tokens");
        fine(" ramp 7;", 1);
        fine("ramp 7; ", 1);
        fine("ramp 7 ;", 1);
        fine("   ramp    7   ;   grace   7   ;   ", 2);
        fine("bay   small   0   0   ;", 1);
        fine("  step  over  0  1  1  ;  ", 1);
        fine(" ".repeat(50) + "ramp" + " ".repeat(50) + "7" + " ".repeat(14) + ";", 1);
        for (char character : new char[] {'\t', '\n', '\r', '\u000b', '\f', '\0', '\u001f', '!', '\u00a0', '\u0085'}) {
            error(character + "ramp 7;", 0);
            error("ramp" + character + "7;", 4);
            error("ramp 7" + character + ";", 6);
            error("ramp 7;" + character, 7);
        }
    }

    private static void spacesNeeded() {
        CHECK.sentence("Text", "they are needed only between two numbers and between two words.");
        fine("ramp7;", 1);
        fine("ramp7;grace7;ramp8;", 3);
        fine("bay small4 99;bay large4 98;", 2);
        fine("step over1440 240 5000;", 1);
        error("baysmall 0 0;", 0);
        error("bay small 00;", 10);
        error("bay small 499;", 10);
        error("stepover 0 1 1;", 0);
        error("step over 01 1;", 10);
        error("step over 0 11;", 14);
        fine("bay small 0 0;ramp 1;", 2);
    }

    private static void order() {
        CHECK.sentence("Text", "The items are carried out in their order.");
        ParkingGarage g = new ParkingGarage();
        CHECK.due("load", Check.load(g, "ramp 7;grace 1;ramp 8;grace 2;bay large 0 1;bay small 0 0;"), 6);
        CHECK.due("R", g.count(6), 8);
        CHECK.due("the grace", g.count(8), 2);
        CHECK.due("the first bay", g.bay(0, 2), 2);
        CHECK.due("the second bay", g.bay(1, 2), 0);
        CHECK.due("load", Check.load(g, "step over 0 7 7;step over 5 6 6;step over 0 8 9;step over 5 4 3;"), 4);
        CHECK.due("the unit", g.step(1, 0, 1), 8);
        CHECK.due("the price", g.step(1, 0, 2), 9);
        CHECK.due("the second unit", g.step(1, 1, 1), 4);
        CHECK.due("two steps", g.step(1, 2, 0), NONE);
        CHECK.due("saved", g.count(12), 2);
    }

    private static ParkingGarage bays(int number) {
        ParkingGarage g = new ParkingGarage();
        for (int bay = 0; bay < number; bay++) {
            g.addBay(0, bay, 0);
        }
        return g;
    }

    private static void noRoomForBay() {
        CHECK.sentence("Text", "\"bay\" if there is no room for one more");
        CHECK.due("the 30th", Check.load(bays(29), "bay small 1 0;"), 1);
        CHECK.due("the 31st", Check.load(bays(30), "bay small 1 0;"), -10);
        CHECK.due("the 31st, behind the 30th", Check.load(bays(29), "bay small 1 0; bay small 1 1;"), -10 - 15);
        CHECK.due("whatever stands behind", Check.load(bays(30), " bay"), -10 - 1);
        CHECK.due("a wrong kind behind", Check.load(bays(30), "bay tiny 1 0;"), -10);
        CHECK.due("a place taken behind", Check.load(bays(30), "bay small 0 0;"), -10);
        CHECK.due("another word", Check.load(bays(30), "bays small 0 0;"), -10);
        CHECK.due("other items", Check.load(bays(30), "ramp 7;grace 7;step over 7 7 7;"), 3);
        ParkingGarage g = bays(28);
        CHECK.due("the 31st of a text", Check.load(g, "bay small 1 0;bay small 1 1;bay small 1 2;"), -10 - 28);
        CHECK.due("none of them", g.count(0), 28);
    }

    private static void placeTaken() {
        CHECK.sentence("Text", "POSITION if there is a bay at this place");
        CHECK.due("the first place", Check.load(bays(1), "bay small 0 0;"), -10 - 12);
        CHECK.due("another position", Check.load(bays(1), "bay small 0 1;"), 1);
        CHECK.due("another level", Check.load(bays(1), "bay small 1 0;"), 1);
        CHECK.due("of another size", Check.load(bays(1), "bay large  0  0;"), -10 - 14);
        CHECK.due("whatever stands behind", Check.load(bays(1), "bay small 0 0 x"), -10 - 12);
        CHECK.due("nothing behind", Check.load(bays(1), "bay small 0 0"), -10 - 12);
        ParkingGarage closed = bays(1);
        closed.setBay(0, 0);
        CHECK.due("of a closed one", Check.load(closed, "bay small 0 0;"), -10 - 12);
        CHECK.sentence("Text", "(both with the items ahead of it carried out)");
        error("bay small 4 99;bay small 4 99;", 27);
        error("bay small 4 99;bay small 4 98;bay small 4 98;", 42);
        fine("bay small 4 99;bay small 3 99;bay small 4 98;", 3);
    }

    private static void sixthStep() {
        CHECK.sentence("Text", "START if the tariff would have a sixth step");
        ParkingGarage g = new ParkingGarage();
        CHECK.due("five", Check.load(g, "step over 1 1 1;step over 2 1 1;step over 3 1 1;step over 1440 1 1;"), 4);
        CHECK.due("ahead", Check.load(g, "step over 4 1 1;"), -10 - 10);
        CHECK.due("behind", Check.load(g, "step over 1439 1 1;"), -10 - 10);
        CHECK.due("whatever stands behind", Check.load(g, "step over 4 0"), -10 - 10);
        CHECK.due("nothing behind", Check.load(g, "step over 4"), -10 - 10);
        CHECK.due("in place of the last one", Check.load(g, "step over 1440 2 2;"), 1);
        CHECK.due("in place of the first one", Check.load(g, "step over 0 2 2;"), 1);
        CHECK.due("in place, wrong behind", Check.load(g, "step over 0 0 2;"), -10 - 12);
        CHECK.due("of the other tariff", Check.load(g, "step normal 4 1 1;"), 1);
        CHECK.sentence("Text", "(both with the items ahead of it carried out)");
        g.setStep(1, 2, 0, 0);
        CHECK.due("the fifth, then a sixth", Check.load(g, "step over 4 1 1;step over 5 1 1;"), -10 - 26);
        CHECK.due("still four", g.step(1, 4, 0), NONE);
        CHECK.due("the fifth twice", Check.load(g, "step over 4 1 1;step over 4 2 2;"), 2);
        CHECK.due("five", g.step(1, 4, 0), 1440);
        CHECK.due("its unit", g.step(1, 3, 1), 2);
    }

    private static void firstError() {
        CHECK.sentence("Text", AT_ERROR);
        error("x y z", 0);
        error("ramp 0;grace 61;", 5);
        error("ramp 7;grace 61;ramp 0;", 13);
        error("bay small 5 100;", 10);
        error("bay tiny 5 100", 4);
        error("step over 1441 0 5001", 10);
        error("step over 1440 0 5001", 15);
        error("step over 1440 1 5001", 17);
        error("ramp 7 x", 7);
        error("ramp 201 x", 5);
        error("  ramp  201  ;", 8);
        error("  bay  small  0  100  ;", 17);
        error("ramp 7;".repeat(16) + "ramp 0;", 117);
    }

    private static void otherWords() {
        CHECK.sentence("Text", "as another word, any other character");
        String[] words = {"bay", "step", "grace", "ramp", "small", "medium", "large", "normal", "over", "r", "x"};
        for (int word = 0; word < words.length; word++) {
            error(words[word] + ";", word < 4 ? words[word].length() : 0);
            error("ramp " + words[word] + ";", 5);
            error("ramp 7 " + words[word] + ";", 7);
            error("bay " + words[word] + ";", word >= 4 && word <= 6 ? 4 + words[word].length() : 4);
            error("bay small " + words[word] + ";", 10);
            error("bay small 0 " + words[word] + ";", 12);
            error("step " + words[word] + ";", word == 7 || word == 8 ? 5 + words[word].length() : 5);
            error("step over 0 1 " + words[word] + ";", 14);
        }
        error("7;", 0);
        error("bay 7;", 4);
        error("step 7;", 5);
    }

    /** Each word with one letter changed, left out, or doubled. */
    private static void misspelledWords() {
        CHECK.sentence("Text", "as another word, any other character");
        String[][] items = {{"", "bay", " small 0 0;"}, {"bay ", "small", " 0 0;"}, {"bay ", "medium", " 0 0;"},
            {"bay ", "large", " 0 0;"}, {"", "step", " over 0 1 1;"}, {"step ", "over", " 0 1 1;"},
            {"step ", "normal", " 0 1 1;"}, {"", "grace", " 1;"}, {"", "ramp", " 1;"}};
        for (String[] item : items) {
            String word = item[1];
            fine(item[0] + word + item[2], 1);
            for (int index = 0; index < word.length(); index++) {
                char letter = word.charAt(index);
                String ahead = item[0] + word.substring(0, index);
                String behind = word.substring(index + 1) + item[2];
                error(ahead + (letter == 'z' ? 'a' : (char) (letter + 1)) + behind, item[0].length());
                error(ahead + (letter == 'a' ? 'z' : (char) (letter - 1)) + behind, item[0].length());
                error(ahead + behind, item[0].length());
                error(ahead + letter + letter + behind, item[0].length());
            }
        }
    }

    /** At each place of a token stands each character. */
    private static void otherCharacters() {
        CHECK.sentence("Text", "any other character");
        for (int code = 0; code <= 255; code++) {
            char other = (char) code;
            if (other != ' ' && other != ';' && !(other >= '0' && other <= '9') && !(other >= 'a' && other <= 'z')) {
                error(String.valueOf(other), 0);
                error("ramp" + other, 4);
                error("ramp 7" + other, 6);
                error("ramp 7;" + other, 7);
                error("bay" + other, 3);
                error("bay small" + other, 9);
                error("bay small 0" + other, 11);
                error("step over 0 1" + other, 13);
            }
        }
        error("ramp;", 4);
        error("bay;", 3);
        error("bay small;", 9);
        error("step;", 4);
        error("step over;", 9);
        error("step over 0;", 11);
    }

    /** A text that is cut behind each of its characters; where a word is cut, it is another word. */
    private static void cut() {
        CHECK.sentence("Text", "If the text ends where another token must come, it is the length of the text.");
        cut("bay medium 4 99;", 0, 0, 3, 4, 4, 4, 4, 4, 4, 10, 11, 12, 13, 14, 15);
        cut("bay small 0 0;", 0, 0, 3, 4, 4, 4, 4, 4, 9, 10, 11, 12, 13);
        cut("bay large 4 5;", 0, 0, 3, 4, 4, 4, 4, 4, 9, 10, 11, 12, 13);
        cut("step over 10 24 500;", 0, 0, 0, 4, 5, 5, 5, 5, 9, 10, 11, 12, 13, 14, 15, 16, 17, 18, 19);
        cut("step normal 5 6 7;", 0, 0, 0, 4, 5, 5, 5, 5, 5, 5, 11, 12, 13, 14, 15, 16, 17);
        cut("grace 60;", 0, 0, 0, 0, 5, 6, 7, 8);
        cut("ramp 200;", 0, 0, 0, 4, 5, 6, 7, 8);
        cut("ramp  1  ;", 0, 0, 0, 4, 5, 6, 7, 8, 9);
        error("ramp 7;grace", 12);
        error("ramp 7;  grace  ", 16);
        error("ramp 7;  g", 9);
    }

    private static void cut(String text, int... positions) {
        CHECK.due("an error for each length of \"" + text + "\"", positions.length, text.length() - 1);
        fine("", 0);
        for (int length = 1; length < text.length(); length++) {
            error(text.substring(0, length), positions[length - 1]);
        }
        fine(text, 1);
        fine(text + " ", 1);
    }

    private static void kept() {
        CHECK.sentence("Promise 8", "(then nothing changes, and the text is kept)");
        ParkingGarage g = new ParkingGarage();
        CHECK.due("not whole", Check.load(g, "ramp 7;grace"), -10 - 12);
        CHECK.due("the same again", g.load(), -10 - 12);
        CHECK.due("R", g.count(6), 50);
        CHECK.due("nothing is saved", g.count(12), 0);
        CHECK.due("nothing to undo", g.undo(), -2);
        Check.type(g, " 5;");
        CHECK.due("whole", g.load(), 2);
        CHECK.due("R", g.count(6), 7);
        CHECK.due("the grace", g.count(8), 5);
        CHECK.due("saved", g.count(12), 1);
        CHECK.due("an error", load("ramp 7;ramp 0;"), -10 - 12);
    }
}
