import java.util.ArrayDeque;
import java.util.ArrayList;
import java.util.List;
import java.util.Random;

/** The sentences on undo: which calls save a state, how many are saved, and what an undo brings back. */
public final class EdgesUndoTest {
    private static final int STATE = -2;
    private static final String SAVES = "Every successful call of addBay(), setBay(), setStep(), setNumber(), load(), "
            + "reserve(), cancel(), enter(), leave(), leaveLost() and pass() saves the state that preceded it, which "
            + "consists of everything but the text.";
    private static final Check CHECK = new Check("EdgesUndoTest");
    /** Five states are saved, so that there is room for just one more; car 1 entered at 20. */
    private static final Scene BASE = new Scene()
            .typed("bay small 0 0;bay medium 0 1;bay large 1 0;step over 7 7 7;")
            .then(ParkingGarage::load, g -> g.reserve(1, 0, 0, 90), g -> g.reserve(2, 1, 200, 300), g -> g.pass(20),
                    g -> g.enter(1, 0), g -> g.pass(80), g -> g.setNumber(0, 60), ParkingGarage::undo);

    private EdgesUndoTest() {
    }

    public static void main(String[] arguments) {
        eachCallSaves();
        otherCallsSaveNothing();
        allButTheText();
        sixStates();
        seventhDiscardsOldest();
        wrapAround();
        mostRecentFirst();
        undoAnswers();
        CHECK.end();
    }

    private static Scene.Call[] calls() {
        return new Scene.Call[] {
            g -> g.addBay(4, 99, 2), g -> g.addBay(0, 2, 0), g -> g.setBay(0, 0), g -> g.setBay(2, 1),
            g -> g.setStep(0, 30, 5, 5), g -> g.setStep(1, 7, 0, 0), g -> g.setStep(0, 0, 60, 200),
            g -> g.setStep(0, 0, 59, 200), g -> g.setNumber(0, 200), g -> g.setNumber(0, 50), g -> g.setNumber(1, 0),
            g -> g.setNumber(1, 15), g -> g.setNumber(2, 60), g -> g.setNumber(2, 10), g -> g.setNumber(3, 0),
            g -> g.setNumber(3, 2000), g -> g.setNumber(4, 0), g -> g.setNumber(4, 2500), ParkingGarage::load,
            g -> g.reserve(3, 2, 150, 160), g -> g.reserve(3, 0, 20000, 21440), g -> g.cancel(1), g -> g.enter(9, 0),
            g -> g.enter(999, 2), g -> g.leave(1), g -> g.leaveLost(1), g -> g.pass(1), g -> g.pass(5000),
        };
    }

    private static void eachCallSaves() {
        CHECK.sentence("Undo", SAVES);
        Scene.Call[] calls = calls();
        CHECK.due("saved states of the base", BASE.make().count(12), 5);
        for (int index = 0; index < calls.length; index++) {
            Scene.Call call = calls[index];
            ParkingGarage g = BASE.make();
            int answer = call.on(g);
            CHECK.holds("call " + index + " is successful", answer >= 0);
            CHECK.due("call " + index + " is saved", g.count(12), 6);
            CHECK.due("call " + index + " is undone", g.undo(), 5);
            CHECK.holds("call " + index + " leaves nothing behind",
                    BASE.then(call, ParkingGarage::undo).everything().equals(BASE.everything()));
            CHECK.due("call " + index + " again", call.on(g), answer);
            CHECK.holds("call " + index + " does the same again", BASE.then(call, ParkingGarage::undo, call)
                    .everything().equals(BASE.then(call).everything()));
        }
    }

    private static void otherCallsSaveNothing() {
        CHECK.sentence("Undo", SAVES);
        Scene.Call[] calls = {
            g -> g.appendCharacter('x'), ParkingGarage::clearText, g -> g.count(0), g -> g.bay(0, 0),
            g -> g.reservation(0, 0), g -> g.car(1, 0), g -> g.step(0, 0, 0), g -> g.account(0), g -> g.nearest(0),
            g -> g.free(0, 0), g -> g.fee(0, 100), g -> g.minutesLeft(1), g -> g.freeFor(1), g -> g.earliest(0, 60),
        };
        for (int index = 0; index < calls.length; index++) {
            ParkingGarage g = BASE.make();
            CHECK.holds("call " + index + " is successful", calls[index].on(g) >= 0);
            CHECK.due("call " + index + " is not saved", g.count(12), 5);
            CHECK.due("undo", g.undo(), 4);
            CHECK.due("of the call ahead of it", g.count(5), 20);
        }
        ParkingGarage g = BASE.make();
        g.undo();
        CHECK.due("an undo is not saved", g.count(12), 4);
    }

    private static void allButTheText() {
        CHECK.sentence("Undo", "which consists of everything but the text.");
        ParkingGarage g = new ParkingGarage();
        Check.type(g, "ramp 7");
        g.setNumber(0, 9);
        Check.type(g, ";");
        CHECK.due("undo", g.undo(), 0);
        CHECK.due("the text is as it was", g.count(11), 7);
        CHECK.due("load", g.load(), 1);
        CHECK.due("R", g.count(6), 7);
        Check.type(g, "grace");
        CHECK.due("undo of load", g.undo(), 0);
        CHECK.due("R", g.count(6), 50);
        CHECK.due("the text is what was typed since then", g.count(11), 5);
        g.setNumber(0, 9);
        g.clearText();
        CHECK.due("undo", g.undo(), 0);
        CHECK.due("a cleared text stays empty", g.count(11), 0);
        Check.type(g, "ramp 8;" + " ".repeat(113));
        g.setNumber(0, 9);
        g.undo();
        CHECK.due("a full text stays full", g.appendCharacter(' '), -3);
        CHECK.due("and is read", g.load(), 1);
    }

    private static void sixStates() {
        CHECK.sentence("Undo", "At most 6 states are saved");
        ParkingGarage g = new ParkingGarage();
        CHECK.due("none", g.count(12), 0);
        for (int call = 1; call <= 20; call++) {
            g.setNumber(4, call);
            CHECK.due("saved", g.count(12), Math.min(call, 6));
        }
        for (int left = 5; left >= 0; left--) {
            CHECK.due("undo", g.undo(), left);
            CHECK.due("saved", g.count(12), left);
            CHECK.due("the state", g.count(10), 14 + left);
        }
        CHECK.due("none is left", g.undo(), STATE);
        CHECK.due("the state", g.count(10), 14);
    }

    private static void seventhDiscardsOldest() {
        CHECK.sentence("Undo", "when a seventh is saved, the oldest one is discarded.");
        for (int calls = 1; calls <= 15; calls++) {
            ParkingGarage g = new ParkingGarage();
            for (int call = 1; call <= calls; call++) {
                g.setNumber(4, call);
            }
            int undone = 0;
            while (g.undo() >= 0 && undone < 100) {
                undone++;
            }
            CHECK.due("undone of " + calls, undone, Math.min(calls, 6));
            CHECK.due("the oldest state of " + calls, g.count(10), calls <= 6 ? 2500 : calls - 6);
        }
        CHECK.sentence("Undo", "At most 6 states are saved");
        ParkingGarage g = new ParkingGarage();
        for (int call = 1; call <= 6; call++) {
            g.setNumber(4, call);
        }
        CHECK.due("a refused call discards none", g.setNumber(4, -1), -1);
        for (int left = 5; left >= 0; left--) {
            CHECK.due("undo", g.undo(), left);
        }
        CHECK.due("the first state", g.count(10), 2500);
    }

    /** Saves and undoes in many orders, as a list of numbers says it. */
    private static void wrapAround() {
        CHECK.sentence("Undo", "undo() restores the most recently saved state and discards it.");
        for (int run = 0; run < 40; run++) {
            Random dice = new Random(run);
            ParkingGarage g = new ParkingGarage();
            ArrayDeque<Integer> saved = new ArrayDeque<>();
            int value = 2500;
            for (int call = 1; call <= 250; call++) {
                if (dice.nextInt(5) < 2 + run % 2) {
                    saved.addLast(value);
                    value = call;
                    g.setNumber(4, value);
                    if (saved.size() == 7) {
                        saved.removeFirst();
                    }
                } else {
                    boolean none = saved.isEmpty();
                    value = none ? value : saved.removeLast();
                    CHECK.due("undo", g.undo(), none ? STATE : saved.size());
                }
                CHECK.due("the state", g.count(10), value);
            }
        }
    }

    /** Each number of undoes behind each call leads to the state behind an earlier call. */
    private static void mostRecentFirst() {
        CHECK.sentence("Promise 27", "Restores the most recently saved state and discards it.");
        List<Scene.Call> calls = new ArrayList<>();
        for (int index = 0; index < 3; index++) {
            int bay = index;
            calls.add(g -> g.addBay(bay, bay, bay));
        }
        calls.add(g -> g.reserve(1, 0, 0, 50));
        calls.add(g -> g.pass(5));
        calls.add(g -> g.reserve(2, 1, 40, 80));
        calls.add(g -> g.enter(1, 0));
        calls.add(g -> g.setStep(0, 10, 10, 10));
        calls.add(g -> g.enter(3, 0));
        calls.add(g -> g.pass(60));
        calls.add(g -> g.setNumber(0, 7));
        calls.add(g -> g.leave(1));
        calls.add(ParkingGarage::load);
        calls.add(g -> g.cancel(1));
        calls.add(g -> g.setBay(2, 0));
        calls.add(g -> g.leaveLost(3));
        calls.add(g -> g.pass(5000));
        List<String> looks = new ArrayList<>();
        Scene scene = new Scene();
        looks.add(Check.look(scene.make()));
        for (Scene.Call call : calls) {
            CHECK.holds("call " + looks.size() + " is successful", call.on(scene.make()) >= 0);
            scene = scene.then(call);
            looks.add(Check.look(scene.make()));
            Scene undone = scene;
            for (int times = 1; times <= 6 && times < looks.size(); times++) {
                undone = undone.then(ParkingGarage::undo);
                CHECK.holds("behind call " + (looks.size() - 1) + ", undone " + times,
                        Check.look(undone.make()).equals(looks.get(looks.size() - 1 - times)));
            }
        }
    }

    private static void undoAnswers() {
        CHECK.sentence("Promise 27", "Returns the number of states that are still saved; ILLEGAL_STATE if there is "
                + "none.");
        ParkingGarage g = new ParkingGarage();
        CHECK.due("none", g.undo(), STATE);
        for (int number = 1; number <= 6; number++) {
            for (int call = 1; call <= number; call++) {
                g.addBay(0, call, 0);
            }
            for (int left = number - 1; left >= 0; left--) {
                CHECK.due("undo", g.undo(), left);
                CHECK.due("bays", g.count(0), left);
            }
            CHECK.due("none", g.undo(), STATE);
            CHECK.due("none still", g.undo(), STATE);
            CHECK.due("bays", g.count(0), 0);
        }
    }
}
