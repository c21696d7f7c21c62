import java.util.Random;

/** All promises: the answers of the program and of the model to the same calls, which fixed seeds choose. */
public final class ModelTest {
    private static final int RUNS = Integer.getInteger("runs", 60);
    private static final int FIRST = Integer.getInteger("first", 0);
    private static final int CALLS = 512;
    private static final String[] WORDS = {
        "bay", "step", "grace", "ramp", "small", "medium", "large", "normal", "over", ";", " ", "  ", "0", "1", "00",
        "07", "4", "5", "60", "61", "99", "100", "200", "201", "240", "241", "1440", "1441", "5000", "5001",
        "99999999999", "x", ":",
    };
    private static final int[] FAR = {-1, Integer.MAX_VALUE, Integer.MIN_VALUE, -2, 1 << 16, 100000};

    private final Check check = new Check("ModelTest");
    private final int[] called = new int[26];
    private final int[] succeeded = new int[26];
    private ParkingGarage g;
    private Model m;
    private Random dice;
    private int plates;
    private int reach;
    private String call;
    private int got;
    private int want;

    private ModelTest() {
    }

    public static void main(String[] arguments) {
        ModelTest test = new ModelTest();
        for (int run = FIRST; run < FIRST + RUNS; run++) {
            test.run(run);
        }
        for (int kind = 0; kind < test.called.length; kind++) {
            test.check.holds("calls of kind " + kind + " that succeed", test.succeeded[kind] > 0);
        }
        test.check.end();
    }

    private void run(int seed) {
        g = new ParkingGarage();
        m = new Model();
        dice = new Random(seed);
        plates = 2 + dice.nextInt(20);
        reach = 20 + dice.nextInt(400);
        int first = dice.nextInt(6) == 0 ? 45 : dice.nextInt(8);
        for (int bay = 0; bay < first; bay++) {
            addBay();
        }
        for (int number = 0; number < CALLS; number++) {
            int kind = dice.nextInt(26);
            if (kind < 8 && dice.nextInt(3) > 0) {
                kind = 8 + dice.nextInt(18);
            }
            one(kind);
            called[kind]++;
            succeeded[kind] += got >= 0 ? 1 : 0;
            check.due("run " + seed + " call " + number + " " + call, got, want);
            compareCounts(seed);
            if (number % 16 == 0) {
                compareAll(seed);
            }
        }
    }

    /** What no answer of the call itself shows. */
    private void compareCounts(int seed) {
        for (int what = 0; what <= 12; what++) {
            check.due("run " + seed + " behind " + call + " count(" + what + ")", g.count(what), m.count(what));
        }
        check.due("run " + seed + " behind " + call + " account", g.account(-1), m.account(-1));
    }

    private void compareAll(int seed) {
        String behind = "run " + seed + " behind " + call + " ";
        for (int row = 0; row < 30; row++) {
            for (int what = 0; what <= 6; what++) {
                check.due(behind + "bay " + row + " " + what, g.bay(row, what), m.bay(row, what));
                check.due(behind + "reservation " + row + " " + what,
                        g.reservation(row, what), m.reservation(row, what));
                check.due(behind + "car " + row + " " + what, g.car(row, what), m.car(row, what));
                check.due(behind + "step " + row % 6 + " " + what,
                        g.step(row / 15, row % 6, what), m.step(row / 15, row % 6, what));
            }
            check.due(behind + "account " + row % 4, g.account(row % 4), m.account(row % 4));
            check.due(behind + "freeFor " + row, g.freeFor(row), m.freeFor(row));
            check.due(behind + "free", g.free(row % 5, row / 5 % 4 - 1), m.free(row % 5, row / 5 % 4 - 1));
            check.due(behind + "nearest", g.nearest(row % 3), m.nearest(row % 3));
        }
    }

    private int upTo(int greatest) {
        return dice.nextInt(60) == 0 ? FAR[dice.nextInt(FAR.length)] : dice.nextInt(greatest + 1);
    }

    private int plate() {
        return dice.nextInt(40) == 0 ? 990 + dice.nextInt(12) : upTo(plates);
    }

    private int some(int... values) {
        return values[dice.nextInt(values.length)];
    }

    private void answers(String name, int program, int model) {
        call = name;
        got = program;
        want = model;
    }

    private void one(int kind) {
        if (kind < 8) {
            setting(kind);
        } else if (kind < 15) {
            car(kind);
        } else {
            look(kind);
        }
    }

    private void addBay() {
        int level = upTo(4);
        int position = dice.nextInt(3) == 0 ? 50 * upTo(2) : upTo(99);
        int size = upTo(2);
        answers("addBay " + level + " " + position + " " + size,
                g.addBay(level, position, size), m.addBay(level, position, size));
    }

    private void setting(int kind) {
        int x = upTo(9);
        switch (kind) {
            case 0:
                addBay();
                break;
            case 1:
                int on = some(0, 1, 1, upTo(2));
                answers("setBay " + x + " " + on, g.setBay(x, on), m.setBay(x, on));
                break;
            case 2:
                setStep();
                break;
            case 3:
                int what = upTo(4);
                int value = what == 0 ? upTo(201) : what == 1 ? upTo(121) : what == 2 ? upTo(61) : upTo(5000);
                answers("setNumber " + what + " " + value, g.setNumber(what, value), m.setNumber(what, value));
                break;
            case 4:
                int character = upTo(256);
                answers("append " + character, g.appendCharacter(character), m.appendCharacter(character));
                break;
            case 5:
                answers("clearText", g.clearText(), m.clearText());
                break;
            default:
                load();
                break;
        }
    }

    private void setStep() {
        int tariff = upTo(1);
        int start = some(0, 10, 60, 1440, 20 * upTo(30));
        int unit = some(0, 1, 60, 240, upTo(241));
        int price = some(0, 5000, upTo(300));
        answers("setStep " + tariff + " " + start + " " + unit + " " + price,
                g.setStep(tariff, start, unit, price), m.setStep(tariff, start, unit, price));
    }

    private void load() {
        StringBuilder typed = new StringBuilder();
        int items = dice.nextInt(5);
        for (int item = 0; item < items; item++) {
            typed.append(item());
        }
        if (dice.nextInt(3) == 0 && typed.length() > 0) {
            int place = dice.nextInt(typed.length());
            int end = dice.nextBoolean() ? place : Math.min(typed.length(), place + 1 + dice.nextInt(5));
            typed.replace(place, end, WORDS[dice.nextInt(WORDS.length)]);
        }
        for (char character : typed.toString().toCharArray()) {
            g.appendCharacter(character);
            m.appendCharacter(character);
        }
        answers("load " + typed, g.load(), m.load());
    }

    private String item() {
        int position = dice.nextInt(100);
        switch (dice.nextInt(4)) {
            case 0:
                return "bay " + WORDS[4 + dice.nextInt(3)] + " " + dice.nextInt(5) + " " + position + ";";
            case 1:
                return "step " + WORDS[7 + dice.nextInt(2)] + " " + 10 * position + " " + (1 + position) + " 9; ";
            case 2:
                return "grace " + dice.nextInt(61) + ";";
            default:
                return " ramp" + (1 + dice.nextInt(200)) + ";";
        }
    }

    private void car(int kind) {
        int plate = plate();
        int size = dice.nextInt(3) == 0 ? upTo(2) : 0;
        switch (kind) {
            case 8:
            case 14:
                int begin = g.count(5) + some(0, upTo(reach), upTo(reach), 5 * upTo(reach));
                int end = begin + some(1, upTo(reach), upTo(reach), upTo(1441));
                answers("reserve " + plate + " " + size + " " + begin + " " + end,
                        g.reserve(plate, size, begin, end), m.reserve(plate, size, begin, end));
                break;
            case 9:
                int reservation = upTo(15);
                answers("cancel " + reservation, g.cancel(reservation), m.cancel(reservation));
                break;
            case 10:
                answers("enter " + plate + " " + size, g.enter(plate, size), m.enter(plate, size));
                break;
            case 11:
                int ticket = Math.max(0, g.count(2) - 6) + upTo(7);
                answers("leave " + ticket, g.leave(ticket), m.leave(ticket));
                break;
            case 12:
                answers("leaveLost " + plate, g.leaveLost(plate), m.leaveLost(plate));
                break;
            default:
                int minutes = some(1, 15, upTo(reach), upTo(reach), upTo(reach), upTo(5001));
                answers("pass " + minutes, g.pass(minutes), m.pass(minutes));
                break;
        }
    }

    private void look(int kind) {
        int x = upTo(16);
        int y = upTo(7);
        switch (kind) {
            case 15:
                answers("bay " + x + " " + y, g.bay(x, y), m.bay(x, y));
                break;
            case 16:
                answers("reservation " + x + " " + y, g.reservation(x, y), m.reservation(x, y));
                break;
            case 17:
                int plate = plate();
                answers("car " + plate + " " + y, g.car(plate, y), m.car(plate, y));
                break;
            case 18:
                int tariff = upTo(1);
                int index = upTo(5);
                int what = upTo(2);
                answers("step " + tariff + " " + index + " " + what,
                        g.step(tariff, index, what), m.step(tariff, index, what));
                break;
            case 19:
                answers("account " + (y - 2), g.account(y - 2), m.account(y - 2));
                break;
            default:
                ask(kind);
                break;
        }
    }

    private void ask(int kind) {
        int size = upTo(3);
        switch (kind) {
            case 20:
                answers("nearest " + size, g.nearest(size), m.nearest(size));
                break;
            case 21:
                int level = upTo(5);
                answers("free " + level + " " + (size - 1), g.free(level, size - 1), m.free(level, size - 1));
                break;
            case 22:
                int tariff = upTo(1);
                int minutes = some(upTo(100), upTo(2000), upTo(20001));
                answers("fee " + tariff + " " + minutes, g.fee(tariff, minutes), m.fee(tariff, minutes));
                break;
            case 23:
                int plate = plate();
                answers("minutesLeft " + plate, g.minutesLeft(plate), m.minutesLeft(plate));
                break;
            case 24:
                int bay = upTo(9);
                answers("freeFor " + bay, g.freeFor(bay), m.freeFor(bay));
                break;
            default:
                int length = some(upTo(reach), upTo(1441));
                if (dice.nextInt(3) == 0) {
                    answers("earliest " + size + " " + length, g.earliest(size, length), m.earliest(size, length));
                } else {
                    answers("undo", g.undo(), m.undo());
                }
                break;
        }
    }
}
