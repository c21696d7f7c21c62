/** The sentences on cars and reservations: plates, the minutes that are held, expiry, and what a reservation finds. */
public final class EdgesReservationsTest {
    private static final int INVALID = -1;
    private static final int STATE = -2;
    private static final int ROOM = -3;
    private static final int NONE = -9;
    private static final String HOLDS = "It holds its bay from H minutes before its begin until its end (at the end it "
            + "does not, also while its car stays longer)";
    private static final String RESERVE = "To reserve for a size means: of the bays that are open, fit the size, are "
            + "not held by another reservation at any minute in which the new one would hold it (also minutes that "
            + "have passed), and, if the new one would hold it now, have no car, the first one is taken.";
    private static final Check CHECK = new Check("EdgesReservationsTest");

    private EdgesReservationsTest() {
    }

    public static void main(String[] arguments) {
        plates();
        insideOrNot();
        sixteen();
        states();
        holdsWhileOpen();
        holdsWhileUsed();
        holdsNoMore();
        holdingTimeNow();
        holdingTimeRange();
        expires();
        expiresAfterRefusal();
        heldMinutes();
        passedMinutes();
        carNow();
        firstOne();
        price();
        spans();
        cancelHalf();
        CHECK.end();
    }

    private static Scene oneBay(int size) {
        return new Scene(g -> g.addBay(0, 0, size));
    }

    /** At the minute, which is at most 20000, after a number of calls at the minute 0. */
    private static ParkingGarage at(int minute, Scene scene) {
        ParkingGarage g = scene.make();
        for (int left = minute - g.count(5); left > 0; left -= 5000) {
            g.pass(Math.min(left, 5000));
        }
        return g;
    }

    private static void plates() {
        CHECK.sentence("Cars and reservations", "A car has a plate, 1 to 999.");
        int[][] rows = {{0, INVALID}, {1, 0}, {2, 0}, {998, 0}, {999, 0}, {1000, INVALID}};
        for (int[] row : rows) {
            int plate = row[0];
            boolean right = row[1] == 0;
            Scene scene = oneBay(0);
            CHECK.due("enter " + plate, scene.make().enter(plate, 0), right ? 1 : INVALID);
            CHECK.due("reserve " + plate, scene.make().reserve(plate, 0, 0, 1), row[1]);
            Scene inside = scene.then(g -> g.enter(plate, 0));
            CHECK.due("car " + plate, inside.make().car(plate, 0), right ? 1 : INVALID);
            CHECK.due("the plate in the bay", inside.make().bay(0, 5), right ? plate : NONE);
            CHECK.due("minutesLeft " + plate, inside.make().minutesLeft(plate), right ? 10 : INVALID);
            CHECK.due("leaveLost " + plate, inside.make().leaveLost(plate), right ? 2500 : INVALID);
        }
    }

    private static void insideOrNot() {
        CHECK.sentence("Cars and reservations", "It is inside, in one bay, or not.");
        ParkingGarage g = new ParkingGarage();
        g.addBay(0, 0, 0);
        g.addBay(0, 1, 0);
        CHECK.due("not inside", g.car(5, 2), NONE);
        CHECK.due("cars", g.count(3), 0);
        g.enter(5, 0);
        CHECK.due("inside", g.car(5, 2), 0);
        CHECK.due("a second time", g.enter(5, 0), STATE);
        CHECK.due("the first bay", g.bay(0, 5), 5);
        CHECK.due("the second bay", g.bay(1, 5), NONE);
        CHECK.due("cars", g.count(3), 1);
        g.leave(1);
        CHECK.due("not inside any more", g.car(5, 2), NONE);
        CHECK.due("cars", g.count(3), 0);
        CHECK.due("cars that have left", g.count(4), 1);
    }

    private static void sixteen() {
        CHECK.sentence("Cars and reservations", "There are at most 16 reservations, numbered from 0 in the order in "
                + "which they were made; they are never removed.");
        ParkingGarage g = new ParkingGarage();
        g.addBay(0, 0, 0);
        g.addBay(4, 99, 0);
        for (int made = 0; made < 16; made++) {
            CHECK.due("made", g.reserve(100 - made, 0, 3000 - 100 * made, 3000 - 100 * made + 20), made);
        }
        for (int made = 0; made < 16; made++) {
            CHECK.due("its plate", g.reservation(made, 0), 100 - made);
        }
        CHECK.due("the 17th", g.reserve(1, 0, 10, 11), ROOM);
        CHECK.due("reservation 16", g.reservation(16, 0), INVALID);
        for (int made = 0; made < 8; made++) {
            g.cancel(made);
        }
        CHECK.due("the 17th, with canceled ones", g.reserve(1, 0, 10, 11), ROOM);
        g.pass(5000);
        CHECK.due("the 17th, with expired ones", g.reserve(1, 0, 6000, 6001), ROOM);
        CHECK.due("no begin", g.earliest(0, 1), NONE);
        CHECK.due("reservations", g.count(1), 16);
        for (int made = 0; made < 16; made++) {
            CHECK.due("its plate stays", g.reservation(made, 0), 100 - made);
            CHECK.due("its state", g.reservation(made, 5), made < 8 ? 3 : 4);
        }
        for (int undone = 0; undone < 6; undone++) {
            g.undo();
        }
        CHECK.due("undo brings none back", g.count(1), 16);
    }

    private static void states() {
        CHECK.sentence("Cars and reservations", "a state: 0 open, 1 used (its car is inside), 2 done, 3 canceled, 4 "
                + "expired.");
        Scene open = oneBay(0).then(g -> g.reserve(1, 0, 10, 50));
        Scene used = open.then(g -> g.enter(1, 0));
        CHECK.due("open", open.make().reservation(0, 5), 0);
        CHECK.due("used", used.make().reservation(0, 5), 1);
        CHECK.due("used, behind its end", at(5000, used).reservation(0, 5), 1);
        CHECK.due("done", used.then(g -> g.leave(1)).make().reservation(0, 5), 2);
        CHECK.due("done, ticket lost", used.then(g -> g.leaveLost(1)).make().reservation(0, 5), 2);
        CHECK.due("canceled", open.then(g -> g.cancel(0)).make().reservation(0, 5), 3);
        CHECK.due("expired", at(50, open).reservation(0, 5), 4);
        CHECK.due("done, behind its end", at(50, used.then(g -> g.leave(1))).reservation(0, 5), 2);
        CHECK.due("canceled, behind its end", at(50, open.then(g -> g.cancel(0))).reservation(0, 5), 3);
        CHECK.due("its car comes without it", open.then(g -> g.setNumber(1, 0), g -> g.enter(1, 0)).make()
                .reservation(0, 5), 0);
    }

    private static void held(String what, ParkingGarage g, int minutesUntil) {
        boolean now = minutesUntil == 0;
        CHECK.due(what + ", held by", g.bay(0, 6), now ? 0 : NONE);
        CHECK.due(what + ", free for", g.freeFor(0), minutesUntil);
        boolean empty = g.bay(0, 5) == NONE;
        CHECK.due(what + ", free", g.free(0, -1), now || !empty ? 0 : 1);
        CHECK.due(what + ", free of its size", g.free(0, 0), now || !empty ? 0 : 1);
        CHECK.due(what + ", nearest", g.nearest(0), now || !empty ? NONE : 0);
        int ticket = g.count(2) + 1;
        CHECK.due(what + ", another car", g.enter(99, 0), now || !empty ? ROOM : ticket);
    }

    private static void holdsWhileOpen() {
        CHECK.sentence("Cars and reservations", HOLDS);
        for (int row : new int[] {0, 1, 2, 15, 119, 120}) {
            int holding = row;
            Scene scene = oneBay(0).then(g -> g.setNumber(1, holding), g -> g.reserve(7, 0, 200, 260));
            String what = "H " + holding;
            held(what + ", at 0", at(0, scene), 200 - holding);
            held(what + ", two minutes ahead", at(200 - holding - 2, scene), 2);
            held(what + ", the minute ahead", at(200 - holding - 1, scene), 1);
            held(what + ", the first minute", at(200 - holding, scene), 0);
            held(what + ", at its begin", at(200, scene), 0);
            held(what + ", the last minute", at(259, scene), 0);
            held(what + ", at its end", at(260, scene), NONE);
            held(what + ", behind it", at(261, scene), NONE);
        }
        Scene late = oneBay(0).then(g -> g.reserve(7, 0, 20000, 21440));
        held("the minute ahead of the last one", at(19984, late), 1);
        held("up to the last minute", at(19985, late), 0);
        held("the last minute", at(20000, late), 0);
    }

    private static void holdsWhileUsed() {
        CHECK.sentence("Cars and reservations", HOLDS);
        for (int row : new int[] {0, 1, 15, 120}) {
            int holding = row;
            Scene scene = oneBay(0).then(g -> g.setNumber(1, holding), g -> g.reserve(7, 0, 200, 260));
            for (int entry : new int[] {200 - holding, 200, 259}) {
                ParkingGarage g = at(entry, scene);
                CHECK.due("enters", g.enter(7, 0), 1);
                CHECK.due("with it", g.car(7, 3), 0);
                held("used", g, 0);
                if (entry < 259) {
                    g.pass(259 - entry);
                }
                held("the last minute, used", g, 0);
                g.pass(1);
                CHECK.due("its car stays", g.bay(0, 5), 7);
                held("at its end, used", g, NONE);
                CHECK.due("its state", g.reservation(0, 5), 1);
            }
        }
        CHECK.sentence("Cars and reservations", "until its end (at the end it does not, also while its car stays "
                + "longer)");
        Scene scene = oneBay(0).then(g -> g.reserve(7, 0, 0, 50), g -> g.enter(7, 0), g -> g.pass(50));
        CHECK.due("the bay can be reserved again", scene.make().reserve(8, 0, 66, 100), 1);
        CHECK.due("but not for now, with the car", scene.make().reserve(8, 0, 65, 100), ROOM);
    }

    private static void holdsNoMore() {
        CHECK.sentence("Cars and reservations", "as long as it is open or used");
        Scene open = oneBay(0).then(g -> g.reserve(1, 0, 10, 500));
        Scene[] scenes = {
            open.then(g -> g.cancel(0)), open.then(g -> g.enter(1, 0), g -> g.leave(1)),
            open.then(g -> g.enter(1, 0), g -> g.leaveLost(1)),
        };
        held("open", open.make(), 0);
        for (int row = 0; row < scenes.length; row++) {
            held("not open " + row, scenes[row].make(), NONE);
            CHECK.due("reserve " + row, scenes[row].make().reserve(2, 0, 10, 500), 1);
            CHECK.due("earliest " + row, scenes[row].make().earliest(0, 100), 0);
        }
        held("expired", at(500, open), NONE);
        CHECK.due("reserve", at(500, open).reserve(2, 0, 500, 501), 1);
        CHECK.due("earliest", at(500, open).earliest(0, 1440), 500);
    }

    private static void holdingTimeNow() {
        CHECK.sentence("Cars and reservations", "where H is the holding time as it is now, 0 to 120 (at first 15).");
        Scene scene = oneBay(0).then(g -> g.reserve(7, 0, 200, 260), g -> g.pass(100));
        held("H 15", scene.make(), 85);
        held("H 99", scene.then(g -> g.setNumber(1, 99)).make(), 1);
        held("H 100", scene.then(g -> g.setNumber(1, 100)).make(), 0);
        held("H 101", scene.then(g -> g.setNumber(1, 101)).make(), 0);
        held("H 100, then 0", scene.then(g -> g.setNumber(1, 100), g -> g.setNumber(1, 0)).make(), 100);
        CHECK.due("its car, H 99", scene.then(g -> g.setNumber(1, 99), g -> g.enter(7, 0)).make().car(7, 3), NONE);
        CHECK.due("its car, H 100", scene.then(g -> g.setNumber(1, 100), g -> g.enter(7, 0)).make().car(7, 3), 0);
        Scene used = scene.then(g -> g.setNumber(1, 100), g -> g.enter(7, 0), g -> g.setNumber(1, 15));
        CHECK.due("used, and not held now", used.make().bay(0, 6), NONE);
        CHECK.due("used, held later", used.make().freeFor(0), 85);
        CHECK.due("the end is not moved", at(259, used).bay(0, 6), 0);
        CHECK.due("the end is not moved", at(260, used).bay(0, 6), NONE);
    }

    private static void holdingTimeRange() {
        CHECK.sentence("Cars and reservations", "where H is the holding time as it is now, 0 to 120 (at first 15).");
        ParkingGarage g = new ParkingGarage();
        CHECK.due("at first", g.count(7), 15);
        CHECK.due("H -1", g.setNumber(1, -1), INVALID);
        CHECK.due("H 121", g.setNumber(1, 121), INVALID);
        CHECK.due("H 0", g.setNumber(1, 0), 15);
        CHECK.due("H 120", g.setNumber(1, 120), 0);
        CHECK.due("H", g.count(7), 120);
    }

    private static void expires() {
        CHECK.sentence("Cars and reservations", "At the end of each call of pass(), open reservations whose end is not "
                + "greater than the time are expired.");
        Scene scene = new Scene();
        for (int row = 0; row < 7; row++) {
            int bay = row;
            scene = scene.then(g -> g.addBay(0, bay, 0), g -> g.reserve(bay + 1, 0, 0, 48 + bay));
        }
        for (int end = 48; end <= 54; end++) {
            for (int minute = 47; minute <= 55; minute++) {
                CHECK.due("end " + end + " at " + minute, at(minute, scene).reservation(end - 48, 5),
                        end <= minute ? 4 : 0);
            }
        }
        ParkingGarage g = scene.make();
        CHECK.due("up to the minute ahead", g.pass(47), 0);
        CHECK.due("the end", g.pass(1), 1);
        CHECK.due("three more", g.pass(3), 3);
        CHECK.due("all of them", g.pass(5000), 3);
        CHECK.due("none is left", g.pass(5000), 0);
        ParkingGarage mixed = scene.make();
        mixed.cancel(0);
        mixed.enter(2, 0);
        mixed.enter(3, 0);
        mixed.leave(2);
        CHECK.due("not the canceled, the used and the done one", mixed.pass(5000), 4);
        int[] states = {3, 1, 2, 4, 4, 4, 4};
        for (int reservation = 0; reservation < states.length; reservation++) {
            CHECK.due("state", mixed.reservation(reservation, 5), states[reservation]);
        }
        CHECK.due("nothing is paid back", mixed.account(1), 1400);
    }

    private static void expiresAfterRefusal() {
        CHECK.sentence("Promise 14", "Returns the number of reservations that expired");
        ParkingGarage all = new ParkingGarage();
        for (int made = 0; made < 16; made++) {
            all.addBay(0, made, 0);
            all.reserve(1, 0, 0, 1);
        }
        CHECK.due("sixteen", all.pass(1), 16);
        CHECK.due("and none more", all.pass(1), 0);
        Scene last = oneBay(0).then(g -> g.setNumber(1, 0), g -> g.reserve(1, 0, 19000, 20000),
                g -> g.reserve(2, 0, 20000, 20001));
        CHECK.due("the last minute", at(19999, last).pass(1), 1);
        CHECK.due("behind the last minute", at(20000, last).pass(1), ROOM);
        CHECK.due("it stays open", at(20000, last).reservation(1, 5), 0);
    }

    private static void heldMinutes() {
        CHECK.sentence("Cars and reservations", RESERVE);
        for (int row : new int[] {0, 1, 15, 120}) {
            int holding = row;
            Scene scene = oneBay(0).then(g -> g.setNumber(1, holding), g -> g.reserve(1, 0, 1000, 1100));
            String what = "H " + holding + ", ";
            int begin = 1000 - holding;
            int end = 1100 + holding;
            CHECK.due(what + "ends where it holds", scene.make().reserve(2, 0, begin - 10, begin), 1);
            CHECK.due(what + "a minute more", scene.make().reserve(2, 0, begin - 10, begin + 1), ROOM);
            CHECK.due(what + "holds from its end", scene.make().reserve(2, 0, end, end + 10), 1);
            CHECK.due(what + "a minute earlier", scene.make().reserve(2, 0, end - 1, end + 10), ROOM);
            CHECK.due(what + "the same", scene.make().reserve(2, 0, 1000, 1100), ROOM);
            CHECK.due(what + "its first minute", scene.make().reserve(2, 0, 1000, 1001), ROOM);
            CHECK.due(what + "its last minute", scene.make().reserve(2, 0, 1099, 1100), ROOM);
            CHECK.due(what + "around it", scene.make().reserve(2, 0, 500, 1900), ROOM);
            CHECK.due(what + "the same plate", scene.make().reserve(1, 0, 1050, 1060), ROOM);
            Scene two = scene.then(g -> g.addBay(0, 1, 0));
            CHECK.due(what + "in another bay", two.make().reserve(2, 0, 1000, 1100), 1);
            CHECK.due(what + "that one", two.then(g -> g.reserve(2, 0, 1000, 1100)).make().reservation(1, 1), 1);
            CHECK.due(what + "held later, not now", two.then(g -> g.reserve(2, 0, 0, 10)).make().reservation(1, 1), 0);
        }
        CHECK.due("the longest ones side by side", oneBay(0).then(g -> g.setNumber(1, 120),
                g -> g.reserve(1, 0, 0, 1440)).make().reserve(1, 0, 1560, 3000), 1);
    }

    /** Only a used one whose car stays can have held minutes that have passed and hold no more. */
    private static void passedMinutes() {
        CHECK.sentence("Cars and reservations", RESERVE);
        Scene used = oneBay(0).then(g -> g.reserve(1, 0, 0, 100), g -> g.enter(1, 0), g -> g.setNumber(1, 120));
        ParkingGarage g = at(100, used);
        CHECK.due("its car is there", g.reserve(2, 0, 220, 230), ROOM);
        CHECK.due("behind its car", g.reserve(2, 0, 221, 230), 1);
        ParkingGarage longer = at(110, used);
        CHECK.due("in minutes that have passed", longer.reserve(2, 0, 219, 300), ROOM);
        CHECK.due("in this minute", longer.reserve(2, 0, 230, 300), ROOM);
        CHECK.due("behind it", longer.reserve(2, 0, 231, 300), 1);
        Scene open = oneBay(0).then(h -> h.reserve(1, 0, 0, 100));
        CHECK.due("one that holds still", at(99, open).reserve(2, 0, 99, 110), ROOM);
        CHECK.due("one that has expired", at(100, open).reserve(2, 0, 100, 110), 1);
    }

    private static void carNow() {
        CHECK.sentence("Cars and reservations", "if the new one would hold it now, have no car");
        for (int row : new int[] {0, 1, 15, 120}) {
            int holding = row;
            Scene scene = oneBay(0).then(g -> g.setNumber(1, holding), g -> g.pass(30), g -> g.enter(1, 0));
            String what = "H " + holding + ", ";
            CHECK.due(what + "begins now", scene.make().reserve(2, 0, 30, 40), ROOM);
            CHECK.due(what + "holds from now", scene.make().reserve(2, 0, 30 + holding, 200), ROOM);
            CHECK.due(what + "holds from the next minute", scene.make().reserve(2, 0, 31 + holding, 200), 0);
            CHECK.due(what + "earliest", scene.make().earliest(0, 1), 31 + holding);
            CHECK.due(what + "its own car", scene.make().reserve(1, 0, 30 + holding, 200), ROOM);
            Scene two = scene.then(g -> g.addBay(4, 0, 2));
            CHECK.due(what + "another bay", two.make().reserve(2, 0, 30 + holding, 200), 0);
            CHECK.due(what + "it", two.then(g -> g.reserve(2, 0, 30 + holding, 200)).make().reservation(0, 1), 1);
            CHECK.due(what + "the car's", two.then(g -> g.reserve(2, 0, 31 + holding, 200)).make().reservation(0, 1),
                    0);
            Scene left = scene.then(g -> g.leave(1));
            CHECK.due(what + "the car has left", left.make().reserve(2, 0, 30, 40), 0);
        }
    }

    private static void firstOne() {
        CHECK.sentence("Cars and reservations", RESERVE);
        Scene scene = new Scene(g -> g.addBay(0, 3, 2), g -> g.addBay(0, 2, 2), g -> g.addBay(0, 1, 1),
                g -> g.addBay(0, 0, 0));
        int[][] first = {{0, 3}, {1, 2}, {2, 1}};
        for (int[] row : first) {
            CHECK.due("of size " + row[0], scene.then(g -> g.reserve(1, row[0], 0, 10)).make().reservation(0, 1),
                    row[1]);
        }
        Scene closed = scene.then(g -> g.setBay(3, 0), g -> g.setBay(2, 0));
        CHECK.due("open", closed.then(g -> g.reserve(1, 0, 0, 10)).make().reservation(0, 1), 1);
        Scene all = closed.then(g -> g.setBay(1, 0), g -> g.setBay(0, 0));
        CHECK.due("none is open", all.make().reserve(1, 0, 0, 10), ROOM);
        CHECK.due("no bay", new ParkingGarage().reserve(1, 0, 0, 10), ROOM);
        ParkingGarage g = scene.make();
        for (int made = 0; made < 4; made++) {
            CHECK.due("one by one", g.reserve(1, 0, 0, 10), made);
            CHECK.due("its bay", g.reservation(made, 1), 3 - made);
        }
        CHECK.due("none is left", g.reserve(1, 0, 0, 10), ROOM);
    }

    private static void price() {
        CHECK.sentence("Cars and reservations", "The price is the fee of the normal tariff (with the grace) for end - "
                + "begin minutes; it is paid at once.");
        int[][] rows = {{1, 0}, {9, 0}, {10, 0}, {11, 200}, {60, 200}, {61, 400}, {600, 2000}, {601, 2000},
                {1440, 2000}};
        for (int[] row : rows) {
            ParkingGarage g = oneBay(0).make();
            g.reserve(1, 0, 50, 50 + row[0]);
            CHECK.due("price of " + row[0], g.reservation(0, 4), row[1]);
            CHECK.due("paid", g.account(1), row[1]);
            CHECK.due("and nothing else", g.account(-1), row[1]);
        }
        ParkingGarage g = oneBay(0).make();
        g.setNumber(2, 0);
        g.reserve(1, 0, 50, 51);
        CHECK.due("without a grace", g.reservation(0, 4), 200);
        g.setNumber(2, 60);
        g.reserve(1, 0, 150, 210);
        CHECK.due("within the longest grace", g.reservation(1, 4), 0);
        g.reserve(1, 0, 250, 311);
        CHECK.due("behind it", g.reservation(2, 4), 400);
        g.setNumber(3, 0);
        g.reserve(1, 0, 450, 1890);
        CHECK.due("nothing a day", g.reservation(3, 4), 0);
        g.setNumber(3, 99999);
        g.setStep(0, 0, 1, 5000);
        CHECK.due("the earlier prices stay", g.reservation(0, 4) + g.reservation(2, 4), 600);
        g.reserve(1, 0, 2450, 3890);
        CHECK.due("the dearest", g.reservation(4, 4), 99999);
        CHECK.due("all", g.account(1), 100599);
    }

    private static void spans() {
        CHECK.sentence("Promise 9", "`begin`: the time or later, at most 20000");
        Scene late = oneBay(0).then(g -> g.pass(5000), g -> g.pass(5000), g -> g.pass(5000), g -> g.pass(4000));
        CHECK.due("ahead of the time", late.make().reserve(1, 0, 18999, 19001), INVALID);
        CHECK.due("the time", late.make().reserve(1, 0, 19000, 19001), 0);
        CHECK.due("the last minute", late.make().reserve(1, 0, 20000, 20001), 0);
        CHECK.due("behind it", late.make().reserve(1, 0, 20001, 20002), INVALID);
        CHECK.sentence("Promise 9", "`end`: greater than begin, at most begin + 1440");
        CHECK.due("at its begin", late.make().reserve(1, 0, 19500, 19500), INVALID);
        CHECK.due("a minute", late.make().reserve(1, 0, 19500, 19501), 0);
        CHECK.due("the longest", late.make().reserve(1, 0, 19500, 20940), 0);
        CHECK.due("too long", late.make().reserve(1, 0, 19500, 20941), INVALID);
        CHECK.due("the last end", late.make().reserve(1, 0, 20000, 21440), 0);
        CHECK.due("behind it", late.make().reserve(1, 0, 20000, 21441), INVALID);
        ParkingGarage g = at(20000, late);
        CHECK.due("in the last minute", g.reserve(1, 0, 20000, 21440), 0);
        CHECK.due("it holds", g.bay(0, 6), 0);
    }

    private static void cancelHalf() {
        CHECK.sentence("Promise 10", "half of its price (price / 2) is paid back if its begin is greater than the "
                + "time, otherwise nothing.");
        int[][] prices = {{0, 0}, {1, 0}, {2, 1}, {3, 1}, {5, 2}, {99999, 49999}};
        for (int[] row : prices) {
            Scene scene = oneBay(0).then(g -> g.setNumber(3, row[0]), g -> g.setStep(0, 0, 1, 5000),
                    g -> g.reserve(1, 0, 100, 200));
            CHECK.due("price", scene.make().reservation(0, 4), row[0]);
            ParkingGarage ahead = at(99, scene);
            CHECK.due("the minute ahead of its begin", ahead.cancel(0), row[1]);
            CHECK.due("the account", ahead.account(1), row[0] - row[1]);
            CHECK.due("its price stays", ahead.reservation(0, 4), row[0]);
            ParkingGarage begun = at(100, scene);
            CHECK.due("at its begin", begun.cancel(0), 0);
            CHECK.due("the account", begun.account(1), row[0]);
            CHECK.due("its state", begun.reservation(0, 5), 3);
            CHECK.due("the last minute", at(199, scene).cancel(0), 0);
            CHECK.due("at its end", at(200, scene).cancel(0), STATE);
        }
        CHECK.due("for now", oneBay(0).then(g -> g.reserve(1, 0, 0, 100)).make().cancel(0), 0);
        CHECK.due("for the next minute", oneBay(0).then(g -> g.reserve(1, 0, 1, 100)).make().cancel(0), 200);
    }
}
