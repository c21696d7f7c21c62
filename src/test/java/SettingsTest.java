/** Promises 1 to 5: a new object, addBay, setBay, setStep, setNumber. */
public final class SettingsTest {
    private static final Check CHECK = new Check("SettingsTest");

    private SettingsTest() {
    }

    public static void main(String[] arguments) {
        promise1NewObject();
        promise2AddBay();
        promise2Thirty();
        promise3SetBay();
        promise4SetStep();
        promise4Room();
        promise4Errors();
        promise5SetNumber();
        promise5Errors();
        CHECK.end();
    }

    private static void promise1NewObject() {
        ParkingGarage g = new ParkingGarage();
        int[] counts = {0, 0, 0, 0, 0, 0, 50, 15, 10, 2000, 2500, 0, 0};
        for (int what = 0; what < counts.length; what++) {
            CHECK.due("new count(" + what + ")", g.count(what), counts[what]);
        }
        int[][] steps = {{0, 60, 200}, {0, 15, 300}};
        for (int tariff = 0; tariff <= 1; tariff++) {
            for (int what = 0; what <= 2; what++) {
                CHECK.due("new step " + tariff + " " + what, g.step(tariff, 0, what), steps[tariff][what]);
            }
            CHECK.due("new second step", g.step(tariff, 1, 0), -9);
        }
        for (int what = -1; what <= 3; what++) {
            CHECK.due("new account(" + what + ")", g.account(what), 0);
        }
        CHECK.due("new bay(0, 0)", g.bay(0, 0), -1);
        CHECK.due("new reservation(0, 0)", g.reservation(0, 0), -1);
        CHECK.due("new leave(1)", g.leave(1), -1);
        CHECK.due("new leaveLost(1)", g.leaveLost(1), -2);
        CHECK.due("new undo()", g.undo(), -2);
        ParkingGarage other = new ParkingGarage();
        other.addBay(0, 0, 0);
        other.setNumber(0, 7);
        CHECK.due("objects stand alone: bays", g.count(0), 0);
        CHECK.due("objects stand alone: R", g.count(6), 50);
    }

    private static void promise2AddBay() {
        ParkingGarage g = new ParkingGarage();
        CHECK.due("addBay(0, 0, 0)", g.addBay(0, 0, 0), 0);
        CHECK.due("addBay(4, 99, 2)", g.addBay(4, 99, 2), 1);
        CHECK.due("addBay(4, 98, 1)", g.addBay(4, 98, 1), 2);
        CHECK.due("the same position elsewhere", g.addBay(3, 99, 1), 3);
        int[] second = {4, 99, 2, 299, 1, -9, -9};
        for (int what = 0; what < second.length; what++) {
            CHECK.due("bay(1, " + what + ")", g.bay(1, what), second[what]);
        }
        String before = Check.look(g);
        int[][] invalid = {
            {-1, 0, 0}, {5, 0, 0}, {0, -1, 0}, {0, 100, 0}, {0, 1, -1}, {0, 1, 3}, {0, 0, 3}, {0, 0, -1},
            {Integer.MAX_VALUE, 1, 1}, {Integer.MIN_VALUE, 1, 1}, {1, Integer.MIN_VALUE, 1}, {1, 1, Integer.MAX_VALUE},
        };
        for (int[] row : invalid) {
            CHECK.due("addBay(" + row[0] + ", " + row[1] + ", " + row[2] + ")", g.addBay(row[0], row[1], row[2]), -1);
        }
        CHECK.due("a place taken", g.addBay(4, 99, 0), -2);
        CHECK.holds("errors change nothing", before.equals(Check.look(g)));
        CHECK.due("errors save nothing", g.count(12), 4);
        g.setBay(1, 0);
        CHECK.due("the place of a closed bay is taken", g.addBay(4, 99, 0), -2);
    }

    private static void promise2Thirty() {
        ParkingGarage g = new ParkingGarage();
        for (int bay = 0; bay < 30; bay++) {
            CHECK.due("bay of thirty", g.addBay(bay / 10, bay % 10, bay % 3), bay);
        }
        CHECK.due("a place taken, and no room", g.addBay(2, 9, 0), -2);
        CHECK.due("no room", g.addBay(3, 0, 0), -3);
        CHECK.due("invalid, and no room", g.addBay(5, 0, 0), -1);
        CHECK.due("bays", g.count(0), 30);
    }

    private static void promise3SetBay() {
        ParkingGarage g = new ParkingGarage();
        CHECK.due("no bay yet", g.setBay(0, 1), -1);
        g.addBay(0, 0, 0);
        CHECK.due("to open what is open", g.setBay(0, 1), 1);
        CHECK.due("a call that changes nothing is saved", g.count(12), 2);
        CHECK.due("on 2", g.setBay(0, 2), -1);
        CHECK.due("on -1", g.setBay(0, -1), -1);
        CHECK.due("bay -1", g.setBay(-1, 0), -1);
        CHECK.due("bay 1", g.setBay(1, 0), -1);
        CHECK.due("bay 30", g.setBay(30, 0), -1);
        CHECK.due("still open", g.bay(0, 4), 1);
        CHECK.due("nothing saved", g.count(12), 2);
        g.enter(5, 0);
        CHECK.due("close", g.setBay(0, 0), 1);
        CHECK.due("closed", g.bay(0, 4), 0);
        CHECK.due("the car stays", g.bay(0, 5), 5);
        CHECK.due("close again", g.setBay(0, 0), 0);
        CHECK.due("the car leaves a closed bay", g.leave(1), 0);
        CHECK.due("no car enters a closed bay", g.enter(5, 0), -3);
        CHECK.due("open", g.setBay(0, 1), 0);
        CHECK.due("enter again", g.enter(5, 0), 2);
    }

    private static void promise4SetStep() {
        ParkingGarage g = new ParkingGarage();
        CHECK.due("step behind", g.setStep(0, 1440, 240, 5000), 2);
        CHECK.due("step between", g.setStep(0, 30, 1, 0), 3);
        int[][] steps = {{0, 60, 200}, {30, 1, 0}, {1440, 240, 5000}};
        for (int index = 0; index < 3; index++) {
            for (int what = 0; what < 3; what++) {
                CHECK.due("step(0, " + index + ", " + what + ")", g.step(0, index, what), steps[index][what]);
            }
        }
        CHECK.due("in place", g.setStep(0, 30, 2, 3), 3);
        CHECK.due("its unit", g.step(0, 1, 1), 2);
        CHECK.due("its price", g.step(0, 1, 2), 3);
        CHECK.due("the other tariff", g.step(1, 1, 0), -9);
        CHECK.due("remove the first", g.setStep(0, 0, 0, 5000), 2);
        CHECK.due("the first now", g.step(0, 0, 0), 30);
        CHECK.due("the second now", g.step(0, 1, 0), 1440);
        CHECK.due("its unit now", g.step(0, 1, 1), 240);
        CHECK.due("its price now", g.step(0, 1, 2), 5000);
        CHECK.due("no third now", g.step(0, 2, 0), -9);
        CHECK.due("remove the last step of a tariff", g.setStep(1, 0, 0, 0), 0);
        CHECK.due("without steps", g.fee(1, 20000), 0);
        CHECK.due("remove it again", g.setStep(1, 0, 0, 0), -2);
        CHECK.due("step again", g.setStep(1, 0, 1, 1), 1);
    }

    private static void promise4Room() {
        ParkingGarage g = new ParkingGarage();
        for (int start = 1; start <= 4; start++) {
            CHECK.due("room", g.setStep(1, start * 10, 5, 5), start + 1);
        }
        CHECK.due("a sixth step", g.setStep(1, 50, 5, 5), -3);
        CHECK.due("a sixth step ahead", g.setStep(1, 5, 5, 5), -3);
        CHECK.due("to remove none, though full", g.setStep(1, 5, 0, 5), -2);
        CHECK.due("in place, though full", g.setStep(1, 40, 6, 7), 5);
        CHECK.due("its price", g.step(1, 4, 2), 7);
        CHECK.due("remove, though full", g.setStep(1, 20, 0, 0), 4);
        CHECK.due("behind the removed one", g.step(1, 2, 0), 30);
        CHECK.due("room again", g.setStep(1, 1, 5, 5), 5);
        CHECK.due("in its order", g.step(1, 1, 0), 1);
        CHECK.due("moved", g.step(1, 4, 0), 40);
        CHECK.due("moved with its unit", g.step(1, 4, 1), 6);
        CHECK.due("moved with its price", g.step(1, 4, 2), 7);
    }

    private static void promise4Errors() {
        ParkingGarage g = new ParkingGarage();
        int[][] invalid = {
            {-1, 0, 1, 0}, {2, 0, 1, 0}, {0, -1, 1, 0}, {0, 1441, 1, 0}, {0, 0, -1, 0}, {0, 0, 241, 0},
            {0, 0, 1, -1}, {0, 0, 1, 5001}, {0, 0, 0, -1}, {0, 0, 0, 5001}, {0, 7, 0, 5001}, {0, 1441, 0, 0},
            {2, 7, 0, 0}, {Integer.MAX_VALUE, 0, 1, 0}, {Integer.MIN_VALUE, 0, 1, 0},
        };
        for (int[] row : invalid) {
            CHECK.due("setStep " + java.util.Arrays.toString(row), g.setStep(row[0], row[1], row[2], row[3]), -1);
        }
        CHECK.due("to remove none", g.setStep(0, 7, 0, 5000), -2);
        CHECK.due("nothing saved", g.count(12), 0);
        CHECK.holds("nothing changed", Check.look(g).equals(Check.look(new ParkingGarage())));
    }

    private static void promise5SetNumber() {
        int[] least = {1, 0, 0, 0, 0};
        int[] greatest = {200, 120, 60, 99999, 99999};
        int[] first = {50, 15, 10, 2000, 2500};
        for (int what = 0; what <= 4; what++) {
            ParkingGarage g = new ParkingGarage();
            CHECK.due("the first number " + what, g.setNumber(what, least[what]), first[what]);
            CHECK.due("the least number " + what, g.setNumber(what, greatest[what]), least[what]);
            CHECK.due("too small " + what, g.setNumber(what, least[what] - 1), -1);
            CHECK.due("too great " + what, g.setNumber(what, greatest[what] + 1), -1);
            CHECK.due("far too great " + what, g.setNumber(what, Integer.MAX_VALUE), -1);
            CHECK.due("far too small " + what, g.setNumber(what, Integer.MIN_VALUE), -1);
            for (int other = 0; other <= 4; other++) {
                CHECK.due("count of number", g.count(6 + other), other == what ? greatest[what] : first[other]);
            }
            CHECK.due("to the same", g.setNumber(what, greatest[what]), greatest[what]);
            CHECK.due("saved", g.count(12), 3);
        }
    }

    private static void promise5Errors() {
        ParkingGarage g = new ParkingGarage();
        CHECK.due("what -1", g.setNumber(-1, 1), -1);
        CHECK.due("what 5", g.setNumber(5, 1), -1);
        CHECK.due("what far", g.setNumber(Integer.MAX_VALUE, 1), -1);
        CHECK.due("what far below", g.setNumber(Integer.MIN_VALUE, 1), -1);
        CHECK.due("nothing saved", g.count(12), 0);
    }
}
