/** The sentence on errors, for one refused call of each method in each scene. */
public final class RefusedTest {
    private static final int INVALID = -1;
    private static final Check CHECK = new Check("RefusedTest");

    private RefusedTest() {
    }

    public static void main(String[] arguments) {
        CHECK.sentence("Errors", "A method that returns an error code changes nothing.");
        Scene.Call[] calls = {
            g -> g.addBay(5, 0, 0), g -> g.setBay(-1, 0), g -> g.setStep(2, 0, 1, 1), g -> g.setNumber(5, 1),
            g -> g.appendCharacter(256), g -> g.reserve(1000, 0, 20000, 20001), g -> g.cancel(16), g -> g.enter(0, 0),
            g -> g.leave(0), g -> g.leaveLost(1000), g -> g.pass(0), g -> g.count(13), g -> g.bay(30, 0),
            g -> g.reservation(16, 0), g -> g.car(1, 6), g -> g.step(0, -1, 0), g -> g.account(4), g -> g.nearest(3),
            g -> g.free(5, 0), g -> g.fee(0, 20001), g -> g.minutesLeft(0), g -> g.freeFor(30),
            g -> g.earliest(0, 1441),
        };
        Refused refused = new Refused(CHECK);
        for (Scene scene : new Scene[] {Refused.FRESH, Refused.SOME, Refused.FULL, Refused.LAST}) {
            for (int call = 0; call < calls.length; call++) {
                refused.call(scene, "refused call " + call, INVALID, calls[call]);
            }
        }
        refused.call(Refused.FRESH, "undo", -2, ParkingGarage::undo);
        refused.call(Refused.SOME, "load", -22, ParkingGarage::load);
        CHECK.end();
    }
}
