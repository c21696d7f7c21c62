import java.util.function.ToIntFunction;

/**
 * All promises: every method with arguments from far below to far above, in an empty garage and in one in which
 * there is no room for anything more, answers as the model does, and nothing is thrown. A garage that has had its 512
 * calls is made anew, and the model with it.
 */
public final class LimitsTest {
    private static final int[] VALUES = {
        Integer.MIN_VALUE, Integer.MIN_VALUE + 1, -1441, -10, -2, -1, 0, 1, 2, 3, 4, 5, 6, 12, 13, 15, 16, 17, 29, 30,
        31, 99, 100, 240, 241, 999, 1000, 1440, 1441, 5000, 5001, 20000, 20001, 99999, 100000, Integer.MAX_VALUE - 1,
        Integer.MAX_VALUE,
    };
    private static final int[] FEW = {
        Integer.MIN_VALUE, -1, 0, 1, 2, 5, 60, 241, 1000, 1441, 5001, 20001, Integer.MAX_VALUE,
    };
    private static final Check CHECK = new Check("LimitsTest");

    private static boolean full;
    private static String where;
    private static ParkingGarage garage;
    private static Model model;
    private static int calls;

    private LimitsTest() {
    }

    public static void main(String[] arguments) {
        start(false, "empty ");
        everyCall();
        start(true, "full ");
        both("count", g -> g.count(0), m -> 30);
        both("count", g -> g.count(1), m -> 16);
        both("count", g -> g.count(3), m -> 30);
        both("count", g -> g.count(11), m -> 120);
        both("count", g -> g.count(12), m -> 6);
        everyCall();
        CHECK.end();
    }

    private static void start(boolean isFull, String name) {
        full = isFull;
        where = name;
        makeAnew();
    }

    private static void makeAnew() {
        garage = new ParkingGarage();
        model = new Model();
        calls = 0;
        if (full) {
            fill();
        }
    }

    private static void both(String what, Scene.Call call, ToIntFunction<Model> due) {
        if (calls == Scene.MOST_CALLS) {
            makeAnew();
        }
        calls++;
        CHECK.due(where + what, call.on(garage), due.applyAsInt(model));
    }

    private static void fill() {
        for (int row = 0; row < 30; row++) {
            int bay = row;
            both("bay", g -> g.addBay(bay % 5, bay, bay % 3), m -> m.addBay(bay % 5, bay, bay % 3));
        }
        for (int row = 0; row < 16; row++) {
            int made = row;
            both("reserve", g -> g.reserve(made + 1, 0, 14, 500 + made), m -> m.reserve(made + 1, 0, 14, 500 + made));
        }
        for (int row = 30; row >= 1; row--) {
            int plate = row;
            both("enter", g -> g.enter(plate, 0), m -> m.enter(plate, 0));
        }
        for (int row = 0; row < 8; row++) {
            int tariff = row % 2;
            int start = 300 + 300 * (row / 2);
            both("step", g -> g.setStep(tariff, start, 1, 5), m -> m.setStep(tariff, start, 1, 5));
        }
        for (int length = 1; length <= 120; length++) {
            both("character", g -> g.appendCharacter(' '), m -> m.appendCharacter(' '));
        }
    }

    private static void lookEverywhere() {
        for (int x : VALUES) {
            both("count " + x, g -> g.count(x), m -> m.count(x));
            both("account " + x, g -> g.account(x), m -> m.account(x));
            both("nearest " + x, g -> g.nearest(x), m -> m.nearest(x));
            both("minutesLeft " + x, g -> g.minutesLeft(x), m -> m.minutesLeft(x));
            both("freeFor " + x, g -> g.freeFor(x), m -> m.freeFor(x));
            for (int y : VALUES) {
                String arguments = " " + x + " " + y;
                both("bay" + arguments, g -> g.bay(x, y), m -> m.bay(x, y));
                both("reservation" + arguments, g -> g.reservation(x, y), m -> m.reservation(x, y));
                both("car" + arguments, g -> g.car(x, y), m -> m.car(x, y));
                both("free" + arguments, g -> g.free(x, y), m -> m.free(x, y));
                both("fee" + arguments, g -> g.fee(x, y), m -> m.fee(x, y));
                both("earliest" + arguments, g -> g.earliest(x, y), m -> m.earliest(x, y));
                for (int z : FEW) {
                    both("step" + arguments + " " + z, g -> g.step(x, y, z), m -> m.step(x, y, z));
                }
            }
        }
    }

    private static void everyCall() {
        lookEverywhere();
        for (int x : VALUES) {
            both("cancel " + x, g -> g.cancel(x), m -> m.cancel(x));
            both("leave " + x, g -> g.leave(x), m -> m.leave(x));
            both("leaveLost " + x, g -> g.leaveLost(x), m -> m.leaveLost(x));
            both("pass " + x, g -> g.pass(x), m -> m.pass(x));
            both("append " + x, g -> g.appendCharacter(x), m -> m.appendCharacter(x));
            both("load", g -> g.load(), m -> m.load());
            for (int y : VALUES) {
                String arguments = " " + x + " " + y;
                both("setBay" + arguments, g -> g.setBay(x, y), m -> m.setBay(x, y));
                both("setNumber" + arguments, g -> g.setNumber(x, y), m -> m.setNumber(x, y));
                both("enter" + arguments, g -> g.enter(x, y), m -> m.enter(x, y));
            }
            both("undo", g -> g.undo(), m -> m.undo());
            both("clearText", g -> g.clearText(), m -> m.clearText());
        }
        longCalls();
    }

    private static void longCalls() {
        for (int w : FEW) {
            for (int x : FEW) {
                for (int y : FEW) {
                    String arguments = " " + w + " " + x + " " + y;
                    both("addBay" + arguments, g -> g.addBay(w, x, y), m -> m.addBay(w, x, y));
                    for (int z : FEW) {
                        both("setStep" + arguments + " " + z, g -> g.setStep(w, x, y, z), m -> m.setStep(w, x, y, z));
                        both("reserve" + arguments + " " + z, g -> g.reserve(w, x, y, z), m -> m.reserve(w, x, y, z));
                    }
                }
            }
        }
    }
}
