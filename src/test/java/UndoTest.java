/** Promise 27: undo. */
public final class UndoTest {
    private static final Check CHECK = new Check("UndoTest");

    private UndoTest() {
    }

    public static void main(String[] arguments) {
        promise27EachCall();
        promise27Six();
        promise27Text();
        promise27Errors();
        CHECK.end();
    }

    /** A garage in which each call of each() is possible. */
    private static ParkingGarage garage() {
        ParkingGarage g = new ParkingGarage();
        g.addBay(0, 0, 0);
        g.addBay(0, 1, 1);
        g.addBay(0, 2, 2);
        g.addBay(0, 3, 2);
        g.setStep(0, 90, 5, 5);
        g.reserve(1, 0, 100, 200);
        g.reserve(2, 0, 20, 90);
        g.pass(20);
        g.enter(2, 0);
        g.enter(3, 1);
        g.pass(90);
        return g;
    }

    private static int each(ParkingGarage g, int call) {
        switch (call) {
            case 0:
                return g.addBay(4, 4, 1);
            case 1:
                return g.setBay(2, 0);
            case 2:
                return g.setStep(0, 30, 7, 7);
            case 3:
                return g.setStep(0, 90, 0, 7);
            case 4:
                return g.setStep(1, 0, 16, 301);
            case 5:
                return g.setNumber(0, 51);
            case 6:
                return g.setNumber(1, 0);
            case 7:
                return g.setNumber(2, 0);
            case 8:
                return g.setNumber(3, 0);
            case 9:
                return g.setNumber(4, 0);
            case 10:
                return Check.load(g, "bay small 3 3;step over 9 9 9;step normal 0 9 9;grace 9;ramp 9;");
            case 11:
                return g.reserve(4, 0, 900, 999);
            case 12:
                return g.cancel(0);
            case 13:
                return g.enter(1, 0);
            case 14:
                return g.enter(9, 2);
            case 15:
                return g.leave(1);
            case 16:
                return g.leave(2);
            case 17:
                return g.leaveLost(2);
            case 18:
                return g.leaveLost(3);
            case 19:
                return g.pass(500);
            default:
                return -1;
        }
    }

    /** With five saved states, so that there is room for just one more. */
    private static ParkingGarage ready() {
        ParkingGarage g = garage();
        for (int times = 0; times < 4; times++) {
            g.setNumber(0, 50);
        }
        g.undo();
        return g;
    }

    private static void promise27EachCall() {
        ParkingGarage six = garage();
        for (int times = 0; times < 6; times++) {
            CHECK.due("six are saved", six.undo(), 5 - times);
        }
        String before = Check.look(ready());
        for (int call = 0; call < 20; call++) {
            ParkingGarage g = ready();
            int answer = each(g, call);
            CHECK.holds("call " + call + " is possible", answer >= 0);
            CHECK.due("call " + call + " is saved", g.count(12), 6);
            String after = Check.look(g);
            CHECK.holds("call " + call + " changes what is there", !before.equals(after));
            CHECK.due("undo of call " + call, g.undo(), 5);
            CHECK.holds("call " + call + " is undone", before.equals(Check.look(g)));
            g = ready();
            each(g, call);
            g.undo();
            CHECK.due("call " + call + " once more", each(g, call), answer);
            CHECK.holds("call " + call + " is seen once more", after.equals(Check.look(g)));
        }
    }

    private static void promise27Six() {
        ParkingGarage g = new ParkingGarage();
        CHECK.due("none", g.undo(), -2);
        for (int call = 1; call <= 9; call++) {
            g.setNumber(0, 100 + call);
            CHECK.due("saved", g.count(12), Math.min(call, 6));
        }
        for (int left = 5; left >= 0; left--) {
            CHECK.due("undo", g.undo(), left);
            CHECK.due("R", g.count(6), 103 + left);
        }
        CHECK.due("none more", g.undo(), -2);
        CHECK.due("R", g.count(6), 103);
        g.setNumber(0, 1);
        g.setNumber(0, 2);
        CHECK.due("an undo is not undone", g.undo(), 1);
        CHECK.due("R", g.count(6), 1);
        g.setNumber(0, 3);
        CHECK.due("the state before", g.undo(), 1);
        CHECK.due("R", g.count(6), 1);
        CHECK.due("and the one before it", g.undo(), 0);
        CHECK.due("R", g.count(6), 103);
    }

    private static void promise27Text() {
        ParkingGarage g = new ParkingGarage();
        Check.type(g, "ramp 7");
        g.setNumber(0, 9);
        g.appendCharacter(';');
        g.undo();
        CHECK.due("the text stays", g.count(11), 7);
        CHECK.due("load", g.load(), 1);
        CHECK.due("undo", g.undo(), 0);
        CHECK.due("R", g.count(6), 50);
        CHECK.due("the text does not come back", g.count(11), 0);
        CHECK.due("an empty load", g.load(), 0);
        CHECK.due("is saved", g.count(12), 1);
        g.appendCharacter('x');
        g.clearText();
        CHECK.due("calls on the text are not", g.count(12), 1);
    }

    private static void promise27Errors() {
        ParkingGarage g = garage();
        while (g.undo() > 0) {
            CHECK.holds("undo", true);
        }
        int[] answers = {
            g.addBay(9, 0, 0), g.addBay(0, 0, 0), g.setBay(9, 0), g.setStep(0, 7, 0, 0), g.setNumber(9, 0),
            Check.load(g, "x"), g.reserve(0, 0, 0, 0), g.cancel(9), g.enter(0, 0), g.leave(9), g.leaveLost(0),
            g.leaveLost(9), g.pass(0), g.undo(),
        };
        for (int index = 0; index < answers.length; index++) {
            CHECK.holds("error " + index, answers[index] < 0);
        }
        CHECK.due("errors save nothing", g.count(12), 0);
    }
}
