import java.util.ArrayList;
import java.util.List;

/**
 * The calls that lead to a state. They are made anew on another garage for each look at it, because an object is
 * good for 512 calls only.
 */
final class Scene {
    /** A call on a garage, with its answer. */
    interface Call {
        int on(ParkingGarage g);
    }

    static final int MOST_CALLS = 512;
    private static final int LOOKS_AT_ONCE = 170;
    private static final List<Call> LOOKS = looks();

    private final List<Call> calls = new ArrayList<>();
    private String everything = null;

    Scene(Call... calls) {
        this.calls.addAll(List.of(calls));
    }

    Scene then(Call... more) {
        Scene longer = new Scene(more);
        longer.calls.addAll(0, calls);
        return longer;
    }

    Scene typed(String text) {
        Scene longer = then();
        for (char character : text.toCharArray()) {
            longer.calls.add(g -> g.appendCharacter(character));
        }
        return longer;
    }

    ParkingGarage make() {
        ParkingGarage g = new ParkingGarage();
        for (Call call : calls) {
            call.on(g);
        }
        return g;
    }

    /** The state, and what it is behind each undo and behind a load: so the saved states and the text are seen, too. */
    String everything() {
        if (everything == null) {
            StringBuilder seen = new StringBuilder(state());
            Scene undone = this;
            for (int saved = make().count(12); saved > 0; saved--) {
                undone = undone.then(ParkingGarage::undo);
                seen.append("undone ").append(undone.state());
            }
            Scene loaded = then(ParkingGarage::load);
            seen.append("loaded ").append(make().load()).append(' ').append(loaded.state());
            everything = seen.toString();
        }
        return everything;
    }

    /** All that the looking calls show, but for what follows from it. */
    String state() {
        StringBuilder seen = new StringBuilder();
        for (int first = 0; first < LOOKS.size(); first += LOOKS_AT_ONCE) {
            List<Call> some = LOOKS.subList(first, Math.min(LOOKS.size(), first + LOOKS_AT_ONCE));
            if (calls.size() + some.size() > MOST_CALLS) {
                throw new IllegalStateException("more calls than an object is good for");
            }
            ParkingGarage g = make();
            for (Call look : some) {
                seen.append(look.on(g)).append(' ');
            }
        }
        return seen.toString();
    }

    private static List<Call> looks() {
        List<Call> looks = new ArrayList<>();
        for (int number = 0; number <= 12; number++) {
            int what = number;
            looks.add(g -> g.count(what));
            looks.add(g -> what <= 3 ? g.account(what) : 0);
        }
        for (int row = 0; row < 30; row++) {
            int which = row;
            for (int number = 0; number <= 6; number++) {
                int what = number;
                looks.add(g -> g.bay(which, what));
                if (what <= 3) {
                    looks.add(g -> g.car(which + 1, what));
                }
                if (which < 16 && what <= 5) {
                    looks.add(g -> g.reservation(which, what));
                }
                if (which < 10 && what <= 2) {
                    looks.add(g -> g.step(which / 5, which % 5, what));
                }
            }
        }
        return looks;
    }
}
