/**
 * All promises: every method with arguments from far below to far above, in an empty garage and in one in which
 * there is no room for anything more, answers as the model does, and nothing is thrown.
 */
public final class LimitsTest {
    private static final int[] VALUES = {
        Integer.MIN_VALUE, Integer.MIN_VALUE + 1, -1441, -10, -2, -1, 0, 1, 2, 3, 4, 5, 6, 12, 13, 15, 16, 17, 29, 30,
        31, 99, 100, 240, 241, 999, 1000, 1440, 1441, 5000, 5001, 20000, 20001, 99999, 100000, Integer.MAX_VALUE - 1,
        Integer.MAX_VALUE,
    };
    private static final int[] FEW = {
        Integer.MIN_VALUE, -1, 0, 1, 2, 5, 60, 241, 1000, 1441, 5001, 20001, Integer.MAX_VALUE,
    };
    private static final Check CHECK = new Check("LimitsTest");

    private LimitsTest() {
    }

    public static void main(String[] arguments) {
        everyCall("empty", new ParkingGarage(), new Model());
        ParkingGarage g = new ParkingGarage();
        Model m = new Model();
        fill(g, m);
        lookEverywhere("full", g, m);
        everyCall("full", g, m);
        lookEverywhere("full, at the end", g, m);
        CHECK.end();
    }

    private static void fill(ParkingGarage g, Model m) {
        for (int bay = 0; bay < 30; bay++) {
            CHECK.due("bay", g.addBay(bay % 5, bay, bay % 3), m.addBay(bay % 5, bay, bay % 3));
        }
        for (int made = 0; made < 16; made++) {
            CHECK.due("reserve", g.reserve(made + 1, 0, 14, 500 + made), m.reserve(made + 1, 0, 14, 500 + made));
        }
        for (int plate = 30; plate >= 1; plate--) {
            CHECK.due("enter", g.enter(plate, 0), m.enter(plate, 0));
        }
        for (int start = 1; start <= 4; start++) {
            for (int tariff = 0; tariff <= 1; tariff++) {
                CHECK.due("step", g.setStep(tariff, 300 * start, 1, 5), m.setStep(tariff, 300 * start, 1, 5));
            }
        }
        for (int length = 1; length <= 120; length++) {
            CHECK.due("character", g.appendCharacter(' '), m.appendCharacter(' '));
        }
        CHECK.due("cars", g.count(3), 30);
        CHECK.due("reservations", g.count(1), 16);
        CHECK.due("states", g.count(12), 6);
    }

    private static void lookEverywhere(String where, ParkingGarage g, Model m) {
        for (int x : VALUES) {
            CHECK.due(where + " count " + x, g.count(x), m.count(x));
            CHECK.due(where + " account " + x, g.account(x), m.account(x));
            CHECK.due(where + " nearest " + x, g.nearest(x), m.nearest(x));
            CHECK.due(where + " minutesLeft " + x, g.minutesLeft(x), m.minutesLeft(x));
            CHECK.due(where + " freeFor " + x, g.freeFor(x), m.freeFor(x));
            for (int y : VALUES) {
                String arguments = " " + x + " " + y;
                CHECK.due(where + " bay" + arguments, g.bay(x, y), m.bay(x, y));
                CHECK.due(where + " reservation" + arguments, g.reservation(x, y), m.reservation(x, y));
                CHECK.due(where + " car" + arguments, g.car(x, y), m.car(x, y));
                CHECK.due(where + " free" + arguments, g.free(x, y), m.free(x, y));
                CHECK.due(where + " fee" + arguments, g.fee(x, y), m.fee(x, y));
                CHECK.due(where + " earliest" + arguments, g.earliest(x, y), m.earliest(x, y));
                for (int z : FEW) {
                    CHECK.due(where + " step" + arguments + " " + z, g.step(x, y, z), m.step(x, y, z));
                }
            }
        }
    }

    private static void everyCall(String where, ParkingGarage g, Model m) {
        lookEverywhere(where, g, m);
        for (int x : VALUES) {
            CHECK.due(where + " cancel " + x, g.cancel(x), m.cancel(x));
            CHECK.due(where + " leave " + x, g.leave(x), m.leave(x));
            CHECK.due(where + " leaveLost " + x, g.leaveLost(x), m.leaveLost(x));
            CHECK.due(where + " pass " + x, g.pass(x), m.pass(x));
            CHECK.due(where + " append " + x, g.appendCharacter(x), m.appendCharacter(x));
            CHECK.due(where + " load", g.load(), m.load());
            for (int y : VALUES) {
                String arguments = " " + x + " " + y;
                CHECK.due(where + " setBay" + arguments, g.setBay(x, y), m.setBay(x, y));
                CHECK.due(where + " setNumber" + arguments, g.setNumber(x, y), m.setNumber(x, y));
                CHECK.due(where + " enter" + arguments, g.enter(x, y), m.enter(x, y));
            }
            CHECK.due(where + " undo", g.undo(), m.undo());
            CHECK.due(where + " clearText", g.clearText(), m.clearText());
        }
        longCalls(where, g, m);
    }

    private static void longCalls(String where, ParkingGarage g, Model m) {
        for (int w : FEW) {
            for (int x : FEW) {
                for (int y : FEW) {
                    String arguments = " " + w + " " + x + " " + y;
                    CHECK.due(where + " addBay" + arguments, g.addBay(w, x, y), m.addBay(w, x, y));
                    for (int z : FEW) {
                        CHECK.due(where + " setStep" + arguments + " " + z,
                                g.setStep(w, x, y, z), m.setStep(w, x, y, z));
                        CHECK.due(where + " reserve" + arguments + " " + z,
                                g.reserve(w, x, y, z), m.reserve(w, x, y, z));
                    }
                }
            }
        }
    }
}
