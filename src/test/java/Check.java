/** Counts and tells the answers of one test that are not as due. */
final class Check {
    private static final long PATIENCE = 300_000;

    private final String test;
    private String sentence = "";
    private boolean sentenceIsChecked = true;
    private int seen = 0;
    private int wrong = 0;

    Check(String test) {
        this.test = test;
        Thread guard = new Thread(this::giveUp);
        guard.setDaemon(true);
        guard.start();
    }

    /** What is looked at from here on: words of a section of the document, which SentencesTest looks up there. */
    void sentence(String section, String words) {
        endSentence();
        sentence = section + ", \"" + words + "\": ";
        sentenceIsChecked = false;
    }

    void due(String what, long got, long want) {
        seen++;
        sentenceIsChecked = true;
        if (got != want) {
            wrong++;
            System.out.println(test + ": " + sentence + what + " answered " + got + ", due is " + want);
        }
    }

    void holds(String what, boolean got) {
        due(what, got ? 1 : 0, 1);
    }

    /** Ends the program, with the exit code 1 if an answer was wrong or none was looked at. */
    void end() {
        endSentence();
        System.out.println(test + ": " + seen + " answers, " + wrong + " wrong");
        System.exit(wrong == 0 && seen > 0 ? 0 : 1);
    }

    private void endSentence() {
        if (!sentenceIsChecked) {
            wrong++;
            System.out.println(test + ": " + sentence + "is not looked at");
        }
    }

    /** A call that does not end is a failure, too. */
    private void giveUp() {
        try {
            Thread.sleep(PATIENCE);
        } catch (InterruptedException stopped) {
            return;
        }
        System.out.println(test + ": " + sentence + "does not end");
        Runtime.getRuntime().halt(1);
    }

    static void type(ParkingGarage garage, String text) {
        for (char character : text.toCharArray()) {
            garage.appendCharacter(character);
        }
    }

    static int load(ParkingGarage garage, String text) {
        garage.clearText();
        type(garage, text);
        return garage.load();
    }

    /** Everything of a garage that can be seen from outside, but for its text: two garages alike show the same. */
    static String look(ParkingGarage g) {
        StringBuilder seen = new StringBuilder();
        for (int what = 0; what <= 10; what++) {
            seen.append(g.count(what)).append(' ');
        }
        for (int what = 0; what <= 3; what++) {
            seen.append(g.account(what)).append(' ');
        }
        for (int bay = 0; bay < g.count(0); bay++) {
            for (int what = 0; what <= 6; what++) {
                seen.append(g.bay(bay, what)).append(' ');
            }
            lookAtCar(g, g.bay(bay, 5), seen);
        }
        for (int reservation = 0; reservation < g.count(1); reservation++) {
            for (int what = 0; what <= 5; what++) {
                seen.append(g.reservation(reservation, what)).append(' ');
            }
        }
        for (int tariff = 0; tariff <= 1; tariff++) {
            for (int index = 0; index <= 5; index++) {
                for (int what = 0; what <= 2; what++) {
                    seen.append(g.step(tariff, index, what)).append(' ');
                }
            }
        }
        return seen.toString();
    }

    private static void lookAtCar(ParkingGarage g, int plate, StringBuilder seen) {
        for (int what = 0; what <= 5 && plate > 0; what++) {
            seen.append(g.car(plate, what)).append(' ');
        }
    }
}
