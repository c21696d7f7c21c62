/** Calls that answer an error code: the answer, and that they change nothing: no state, no text, no saved state. */
final class Refused {
    /** A new object. */
    static final Scene FRESH = new Scene();
    /** Bays, cars and reservations in each of their states, six saved states, and a text that is not whole. */
    static final Scene SOME = some();
    /** No room for anything more: bays, cars, reservations, steps, characters and saved states. */
    static final Scene FULL = full();
    /** The last minute. */
    static final Scene LAST = new Scene(g -> g.addBay(0, 0, 2), g -> g.addBay(0, 1, 0), g -> g.pass(5000),
            g -> g.pass(5000), g -> g.pass(5000), g -> g.pass(4990), g -> g.reserve(1, 1, 19990, 20001),
            g -> g.enter(2, 0), g -> g.pass(10)).typed("ramp 9;");

    /** Values that are wrong for every argument but an index; the last ones wrap around where they are cut. */
    static final int[] FAR = {
        Integer.MIN_VALUE, Integer.MIN_VALUE + 1, Integer.MAX_VALUE - 1, Integer.MAX_VALUE, 1 << 8, 1 << 16, -(1 << 16),
        -9, -3, -2,
    };

    private final Check check;

    Refused(Check check) {
        this.check = check;
    }

    void call(Scene scene, String name, int due, Scene.Call call) {
        check.due(name, call.on(scene.make()), due);
        check.holds(name + " changes nothing", scene.then(call).everything().equals(scene.everything()));
    }

    /** In SOME: car 2 is inside with the reservation 1, car 7 without; tickets 1 and 3 have left; the time is 230. */
    private static Scene some() {
        return new Scene(
                g -> g.addBay(0, 0, 0),
                g -> g.addBay(0, 1, 1),
                g -> g.addBay(1, 0, 2),
                g -> g.addBay(4, 99, 2),
                g -> g.setBay(3, 0),
                g -> g.setStep(0, 90, 30, 100),
                g -> g.reserve(1, 0, 0, 40),
                g -> g.reserve(2, 1, 0, 60),
                g -> g.reserve(3, 2, 100, 200),
                g -> g.reserve(4, 2, 400, 500),
                g -> g.reserve(5, 0, 600, 700),
                g -> g.enter(1, 0),
                g -> g.enter(2, 1),
                g -> g.enter(6, 0),
                g -> g.cancel(3),
                g -> g.leave(1),
                g -> g.pass(30),
                g -> g.pass(200),
                g -> g.enter(7, 0),
                g -> g.leaveLost(6)).typed("ramp 7; bay smal");
    }

    private static Scene full() {
        Scene scene = new Scene();
        for (int row = 0; row < 30; row++) {
            int bay = row;
            scene = scene.then(g -> g.addBay(bay % 5, bay, bay % 3));
        }
        for (int row = 0; row < 16; row++) {
            int plate = row + 1;
            scene = scene.then(g -> g.reserve(plate, 0, 14, 500 + plate));
        }
        for (int row = 1; row <= 4; row++) {
            int start = 300 * row;
            scene = scene.then(g -> g.setStep(0, start, 60, 5), g -> g.setStep(1, start, 1, 5));
        }
        for (int row = 30; row >= 1; row--) {
            int plate = row;
            scene = scene.then(g -> g.enter(plate, 0));
        }
        return scene.typed("grace 3;ramp 199;".repeat(7) + " ");
    }
}
