import java.util.ArrayList;
import java.util.List;
import java.util.Random;

/**
 * All promises: the answers of the program and of the model to the same calls, which fixed seeds choose. What is looked
 * at between them is asked of other garages, for which the calls are made anew: so none has more than its 512 calls.
 */
public final class ModelTest {
    private static final int RUNS = Integer.getInteger("runs", 100);
    private static final int FIRST = Integer.getInteger("first", 0);
    private static final String[] WORDS = {
        "bay", "step", "grace", "ramp", "small", "medium", "large", "normal", "over", ";", " ", "  ", "0", "1", "00",
        "07", "4", "5", "60", "61", "99", "100", "200", "201", "240", "241", "1440", "1441", "5000", "5001",
        "99999999999", "x", ":",
    };
    private static final int[] FAR = {-1, Integer.MAX_VALUE, Integer.MIN_VALUE, -2, 1 << 16, 100000};

    private final Check check = new Check("ModelTest");
    private final int[] called = new int[26];
    private final int[] succeeded = new int[26];
    private final List<Scene.Call> made = new ArrayList<>();
    private ParkingGarage garage;
    private ParkingGarage other;
    private int callsOfOther;
    private Model m;
    private int seed;
    private Random dice;
    private int plates;
    private int reach;
    private String call;
    private int got;

    private ModelTest() {
    }

    public static void main(String[] arguments) {
        ModelTest test = new ModelTest();
        for (int run = FIRST; run < FIRST + RUNS; run++) {
            test.run(run);
        }
        for (int kind = 0; kind < test.called.length; kind++) {
            test.check.holds("calls of kind " + kind + " that succeed", test.succeeded[kind] > 0);
        }
        test.check.end();
    }

    private void run(int number) {
        seed = number;
        made.clear();
        garage = new ParkingGarage();
        m = new Model();
        dice = new Random(seed);
        plates = 2 + dice.nextInt(20);
        reach = 20 + dice.nextInt(400);
        int first = dice.nextInt(6) == 0 ? 45 : dice.nextInt(8);
        for (int bay = 0; bay < first; bay++) {
            addBay();
        }
        for (int turn = 0; made.size() < Scene.MOST_CALLS; turn++) {
            int kind = dice.nextInt(26);
            if (kind < 8 && dice.nextInt(3) > 0) {
                kind = 8 + dice.nextInt(18);
            }
            one(kind);
            called[kind]++;
            succeeded[kind] += got >= 0 ? 1 : 0;
            other = null;
            compareCounts();
            if (turn % 16 == 0) {
                compareAll();
            }
        }
    }

    /** Asks a garage in the state behind the last call; behind the 512th call none is left that could answer. */
    private void look(String what, Scene.Call look, int due) {
        if (made.size() >= Scene.MOST_CALLS) {
            return;
        }
        if (other == null || callsOfOther >= Scene.MOST_CALLS) {
            other = new ParkingGarage();
            for (Scene.Call before : made) {
                before.on(other);
            }
            callsOfOther = made.size();
        }
        callsOfOther++;
        check.due(what, look.on(other), due);
    }

    /** What no answer of the call itself shows. */
    private void compareCounts() {
        String behind = call + ", then ";
        for (int number = 0; number <= 12; number++) {
            int what = number;
            look(behind + "count " + what, g -> g.count(what), m.count(what));
        }
        look(behind + "account", g -> g.account(-1), m.account(-1));
    }

    private void compareAll() {
        String behind = call + ", then ";
        for (int number = 0; number < 30; number++) {
            int row = number;
            for (int property = 0; property <= 6; property++) {
                int what = property;
                look(behind + "bay " + row + " " + what, g -> g.bay(row, what), m.bay(row, what));
                look(behind + "reservation " + row + " " + what,
                        g -> g.reservation(row, what), m.reservation(row, what));
                look(behind + "car " + row + " " + what, g -> g.car(row, what), m.car(row, what));
                look(behind + "step " + row % 6 + " " + what,
                        g -> g.step(row / 15, row % 6, what), m.step(row / 15, row % 6, what));
            }
            look(behind + "account " + row % 4, g -> g.account(row % 4), m.account(row % 4));
            look(behind + "freeFor " + row, g -> g.freeFor(row), m.freeFor(row));
            look(behind + "free", g -> g.free(row % 5, row / 5 % 4 - 1), m.free(row % 5, row / 5 % 4 - 1));
            look(behind + "nearest", g -> g.nearest(row % 3), m.nearest(row % 3));
        }
    }

    private int upTo(int greatest) {
        return dice.nextInt(60) == 0 ? FAR[dice.nextInt(FAR.length)] : dice.nextInt(greatest + 1);
    }

    private int plate() {
        return dice.nextInt(40) == 0 ? 990 + dice.nextInt(12) : upTo(plates);
    }

    private int some(int... values) {
        return values[dice.nextInt(values.length)];
    }

    private void answers(String name, Scene.Call program, int model) {
        call = "run " + seed + " call " + (made.size() + 1) + " " + name;
        got = program.on(garage);
        made.add(program);
        check.due(call, got, model);
    }

    private void one(int kind) {
        if (kind < 8) {
            setting(kind);
        } else if (kind < 15) {
            car(kind);
        } else {
            look(kind);
        }
    }

    private void addBay() {
        int level = upTo(4);
        int position = dice.nextInt(3) == 0 ? 50 * upTo(2) : upTo(99);
        int size = upTo(2);
        answers("addBay " + level + " " + position + " " + size,
                g -> g.addBay(level, position, size), m.addBay(level, position, size));
    }

    private void setting(int kind) {
        int x = upTo(9);
        switch (kind) {
            case 0:
                addBay();
                break;
            case 1:
                int on = some(0, 1, 1, upTo(2));
                answers("setBay " + x + " " + on, g -> g.setBay(x, on), m.setBay(x, on));
                break;
            case 2:
                setStep();
                break;
            case 3:
                int what = upTo(4);
                int value = what == 0 ? upTo(201) : what == 1 ? upTo(121) : what == 2 ? upTo(61) : upTo(5000);
                answers("setNumber " + what + " " + value, g -> g.setNumber(what, value), m.setNumber(what, value));
                break;
            case 4:
                int character = upTo(256);
                answers("append " + character, g -> g.appendCharacter(character), m.appendCharacter(character));
                break;
            case 5:
                answers("clearText", g -> g.clearText(), m.clearText());
                break;
            default:
                load();
                break;
        }
    }

    private void setStep() {
        int tariff = upTo(1);
        int start = some(0, 10, 60, 1440, 20 * upTo(30));
        int unit = some(0, 1, 60, 240, upTo(241));
        int price = some(0, 5000, upTo(300));
        answers("setStep " + tariff + " " + start + " " + unit + " " + price,
                g -> g.setStep(tariff, start, unit, price), m.setStep(tariff, start, unit, price));
    }

    private void load() {
        StringBuilder typed = new StringBuilder();
        int items = dice.nextInt(5);
        for (int item = 0; item < items; item++) {
            typed.append(item());
        }
        if (dice.nextInt(3) == 0 && typed.length() > 0) {
            int place = dice.nextInt(typed.length());
            int end = dice.nextBoolean() ? place : Math.min(typed.length(), place + 1 + dice.nextInt(5));
            typed.replace(place, end, WORDS[dice.nextInt(WORDS.length)]);
        }
        typed.setLength(Math.min(typed.length(), Scene.MOST_CALLS - 1 - made.size()));
        for (char character : typed.toString().toCharArray()) {
            answers("append", g -> g.appendCharacter(character), m.appendCharacter(character));
        }
        answers("load " + typed, g -> g.load(), m.load());
    }

    private String item() {
        int position = dice.nextInt(100);
        switch (dice.nextInt(4)) {
            case 0:
                return "bay " + WORDS[4 + dice.nextInt(3)] + " " + dice.nextInt(5) + " " + position + ";";
            case 1:
                return "step " + WORDS[7 + dice.nextInt(2)] + " " + 10 * position + " " + (1 + position) + " 9; ";
            case 2:
                return "grace " + dice.nextInt(61) + ";";
            default:
                return " ramp" + (1 + dice.nextInt(200)) + ";";
        }
    }

    private void car(int kind) {
        int plate = plate();
        int size = dice.nextInt(3) == 0 ? upTo(2) : 0;
        switch (kind) {
            case 8:
            case 14:
                int begin = m.count(5) + some(0, upTo(reach), upTo(reach), 5 * upTo(reach));
                int end = begin + some(1, upTo(reach), upTo(reach), upTo(1441));
                answers("reserve " + plate + " " + size + " " + begin + " " + end,
                        g -> g.reserve(plate, size, begin, end), m.reserve(plate, size, begin, end));
                break;
            case 9:
                int reservation = upTo(15);
                answers("cancel " + reservation, g -> g.cancel(reservation), m.cancel(reservation));
                break;
            case 10:
                answers("enter " + plate + " " + size, g -> g.enter(plate, size), m.enter(plate, size));
                break;
            case 11:
                int ticket = Math.max(0, m.count(2) - 6) + upTo(7);
                answers("leave " + ticket, g -> g.leave(ticket), m.leave(ticket));
                break;
            case 12:
                answers("leaveLost " + plate, g -> g.leaveLost(plate), m.leaveLost(plate));
                break;
            default:
                int minutes = some(1, 15, upTo(reach), upTo(reach), upTo(reach), upTo(5001));
                answers("pass " + minutes, g -> g.pass(minutes), m.pass(minutes));
                break;
        }
    }

    private void look(int kind) {
        int x = upTo(16);
        int y = upTo(7);
        switch (kind) {
            case 15:
                answers("bay " + x + " " + y, g -> g.bay(x, y), m.bay(x, y));
                break;
            case 16:
                answers("reservation " + x + " " + y, g -> g.reservation(x, y), m.reservation(x, y));
                break;
            case 17:
                int plate = plate();
                answers("car " + plate + " " + y, g -> g.car(plate, y), m.car(plate, y));
                break;
            case 18:
                int tariff = upTo(1);
                int index = upTo(5);
                int what = upTo(2);
                answers("step " + tariff + " " + index + " " + what,
                        g -> g.step(tariff, index, what), m.step(tariff, index, what));
                break;
            case 19:
                answers("account " + (y - 2), g -> g.account(y - 2), m.account(y - 2));
                break;
            default:
                ask(kind);
                break;
        }
    }

    private void ask(int kind) {
        int size = upTo(3);
        switch (kind) {
            case 20:
                answers("nearest " + size, g -> g.nearest(size), m.nearest(size));
                break;
            case 21:
                int level = upTo(5);
                answers("free " + level + " " + (size - 1), g -> g.free(level, size - 1), m.free(level, size - 1));
                break;
            case 22:
                int tariff = upTo(1);
                int minutes = some(upTo(100), upTo(2000), upTo(20001));
                answers("fee " + tariff + " " + minutes, g -> g.fee(tariff, minutes), m.fee(tariff, minutes));
                break;
            case 23:
                int plate = plate();
                answers("minutesLeft " + plate, g -> g.minutesLeft(plate), m.minutesLeft(plate));
                break;
            case 24:
                int bay = upTo(9);
                answers("freeFor " + bay, g -> g.freeFor(bay), m.freeFor(bay));
                break;
            default:
                int length = some(upTo(reach), upTo(1441));
                if (dice.nextInt(3) == 0) {
                    answers("earliest " + size + " " + length, g -> g.earliest(size, length), m.earliest(size, length));
                } else {
                    answers("undo", g -> g.undo(), m.undo());
                }
                break;
        }
    }
}
