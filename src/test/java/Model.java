import java.util.ArrayDeque;
import java.util.ArrayList;
import java.util.List;
import java.util.TreeMap;
import java.util.regex.Matcher;
import java.util.regex.Pattern;

/**
 * The document once more, in its slowest form: all is tried minute by minute, each saved state is a whole copy,
 * and the text is cut by a pattern. ModelTest compares the program with it.
 */
final class Model {
    private static final int INVALID = -1;
    private static final int STATE = -2;
    private static final int ROOM = -3;
    private static final int NONE = -9;
    private static final Pattern TOKEN = Pattern.compile("[a-z]+|[0-9]+|[^ ]", Pattern.DOTALL);
    private static final List<String> KINDS = List.of("small", "medium", "large");
    private static final List<String> TARIFFS = List.of("normal", "over");
    private static final int[] LEAST = {1, 0, 0, 0, 0};
    private static final int[] GREATEST = {200, 120, 60, 99999, 99999};

    private record Bay(int level, int position, int size, boolean open) {
    }

    private record Reservation(int plate, int bay, int begin, int end, int price, int state) {
        Reservation in(int other) {
            return new Reservation(plate, bay, begin, end, price, other);
        }
    }

    private record Ticket(int plate, int entry, int bay, int reservation, boolean inside) {
    }

    private static final class Books {
        int time = 0;
        List<Bay> bays = new ArrayList<>();
        List<Reservation> reservations = new ArrayList<>();
        List<Ticket> tickets = new ArrayList<>();
        List<TreeMap<Integer, int[]>> tariffs = new ArrayList<>();
        int[] numbers = {50, 15, 10, 2000, 2500};
        long[] accounts = new long[4];

        Books copy() {
            Books other = new Books();
            other.time = time;
            other.bays.addAll(bays);
            other.reservations.addAll(reservations);
            other.tickets.addAll(tickets);
            for (TreeMap<Integer, int[]> tariff : tariffs) {
                other.tariffs.add(new TreeMap<>(tariff));
            }
            other.numbers = numbers.clone();
            other.accounts = accounts.clone();
            return other;
        }
    }

    private Books b = new Books();
    private final ArrayDeque<Books> saved = new ArrayDeque<>();
    private String text = "";

    Model() {
        b.tariffs.add(new TreeMap<>());
        b.tariffs.add(new TreeMap<>());
        b.tariffs.get(0).put(0, new int[] {60, 200});
        b.tariffs.get(1).put(0, new int[] {15, 300});
    }

    private void save() {
        saved.addLast(b.copy());
        if (saved.size() == 7) {
            saved.removeFirst();
        }
    }

    private static boolean out(long value, long least, long greatest) {
        return value < least || value > greatest;
    }

    private boolean placeTaken(Books books, int level, int position) {
        return books.bays.stream().anyMatch(bay -> bay.level() == level && bay.position() == position);
    }

    int addBay(int level, int position, int size) {
        if (out(level, 0, 4) || out(position, 0, 99) || out(size, 0, 2)) {
            return INVALID;
        }
        if (placeTaken(b, level, position)) {
            return STATE;
        }
        if (b.bays.size() == 30) {
            return ROOM;
        }
        save();
        b.bays.add(new Bay(level, position, size, true));
        return b.bays.size() - 1;
    }

    int setBay(int bay, int on) {
        if (out(bay, 0, b.bays.size() - 1) || out(on, 0, 1)) {
            return INVALID;
        }
        save();
        Bay old = b.bays.get(bay);
        b.bays.set(bay, new Bay(old.level(), old.position(), old.size(), on == 1));
        return old.open() ? 1 : 0;
    }

    int setStep(int tariff, int start, int unit, int price) {
        if (out(tariff, 0, 1) || out(start, 0, 1440) || out(unit, 0, 240) || out(price, 0, 5000)) {
            return INVALID;
        }
        TreeMap<Integer, int[]> steps = b.tariffs.get(tariff);
        boolean there = steps.containsKey(start);
        if (unit == 0 && !there) {
            return STATE;
        }
        if (unit > 0 && !there && steps.size() == 5) {
            return ROOM;
        }
        save();
        if (unit == 0) {
            steps.remove(start);
        } else {
            steps.put(start, new int[] {unit, price});
        }
        return steps.size();
    }

    int setNumber(int what, int value) {
        if (out(what, 0, 4) || out(value, LEAST[what], GREATEST[what])) {
            return INVALID;
        }
        save();
        int old = b.numbers[what];
        b.numbers[what] = value;
        return old;
    }

    int appendCharacter(int character) {
        if (out(character, 0, 255)) {
            return INVALID;
        }
        if (text.length() == 120) {
            return ROOM;
        }
        text += (char) character;
        return text.length();
    }

    int clearText() {
        int old = text.length();
        text = "";
        return old;
    }

    private List<String> tokens;
    private List<Integer> offsets;
    private int next;

    int load() {
        tokens = new ArrayList<>();
        offsets = new ArrayList<>();
        Matcher matcher = TOKEN.matcher(text);
        while (matcher.find()) {
            tokens.add(matcher.group());
            offsets.add(matcher.start());
        }
        tokens.add("");
        offsets.add(text.length());
        next = 0;
        Books draft = b.copy();
        int items = 0;
        while (next < tokens.size() - 1) {
            if (!item(draft)) {
                return -10 - offsets.get(next);
            }
            items++;
        }
        save();
        b = draft;
        text = "";
        return items;
    }

    private boolean item(Books draft) {
        switch (tokens.get(next)) {
            case "bay":
                return bayItem(draft);
            case "step":
                return stepItem(draft);
            case "grace":
                return numberItem(draft, 2);
            case "ramp":
                return numberItem(draft, 0);
            default:
                return false;
        }
    }

    private boolean bayItem(Books draft) {
        if (draft.bays.size() == 30) {
            return false;
        }
        next++;
        int size = KINDS.indexOf(tokens.get(next));
        if (size < 0) {
            return false;
        }
        next++;
        int level = number(0, 4);
        if (level < 0) {
            return false;
        }
        next++;
        int position = number(0, 99);
        if (position < 0 || placeTaken(draft, level, position) || !end()) {
            return false;
        }
        draft.bays.add(new Bay(level, position, size, true));
        return true;
    }

    private boolean stepItem(Books draft) {
        next++;
        int tariff = TARIFFS.indexOf(tokens.get(next));
        if (tariff < 0) {
            return false;
        }
        next++;
        int start = number(0, 1440);
        TreeMap<Integer, int[]> steps = draft.tariffs.get(tariff);
        if (start < 0 || steps.size() == 5 && !steps.containsKey(start)) {
            return false;
        }
        next++;
        int unit = number(1, 240);
        if (unit < 0) {
            return false;
        }
        next++;
        int price = number(0, 5000);
        if (price < 0 || !end()) {
            return false;
        }
        steps.put(start, new int[] {unit, price});
        return true;
    }

    private boolean numberItem(Books draft, int what) {
        next++;
        int value = number(LEAST[what], GREATEST[what]);
        if (value < 0 || !end()) {
            return false;
        }
        draft.numbers[what] = value;
        return true;
    }

    private int number(int least, int greatest) {
        String token = tokens.get(next);
        if (!token.matches("0|[1-9][0-9]{0,5}")) {
            return -1;
        }
        int value = Integer.parseInt(token);
        return out(value, least, greatest) ? -1 : value;
    }

    private boolean end() {
        next++;
        if (!tokens.get(next).equals(";")) {
            return false;
        }
        next++;
        return true;
    }

    private int way(int bay) {
        return b.bays.get(bay).level() * b.numbers[0] + b.bays.get(bay).position();
    }

    private boolean before(int one, int other) {
        if (way(one) != way(other)) {
            return way(one) < way(other);
        }
        int size = b.bays.get(one).size();
        int otherSize = b.bays.get(other).size();
        return size != otherSize ? size < otherSize : one < other;
    }

    private boolean holds(int reservation, int minute) {
        Reservation r = b.reservations.get(reservation);
        return (r.state() == 0 || r.state() == 1) && minute >= r.begin() - b.numbers[1] && minute < r.end();
    }

    private int holder(int bay, int minute) {
        for (int r = 0; r < b.reservations.size(); r++) {
            if (b.reservations.get(r).bay() == bay && holds(r, minute)) {
                return r;
            }
        }
        return NONE;
    }

    private int ticketIn(int bay) {
        for (int t = 0; t < b.tickets.size(); t++) {
            if (b.tickets.get(t).inside() && b.tickets.get(t).bay() == bay) {
                return t;
            }
        }
        return NONE;
    }

    private int ticketOf(int plate) {
        for (int t = 0; t < b.tickets.size(); t++) {
            if (b.tickets.get(t).inside() && b.tickets.get(t).plate() == plate) {
                return t;
            }
        }
        return NONE;
    }

    private boolean openFor(int bay, int size) {
        return b.bays.get(bay).open() && b.bays.get(bay).size() >= size;
    }

    private boolean reservable(int bay, int size, int begin, int end) {
        if (!openFor(bay, size)) {
            return false;
        }
        for (int minute = begin - b.numbers[1]; minute < end; minute++) {
            if (holder(bay, minute) != NONE || minute == b.time && ticketIn(bay) != NONE) {
                return false;
            }
        }
        return true;
    }

    private int bayToReserve(int size, int begin, int end) {
        int first = NONE;
        for (int bay = 0; bay < b.bays.size(); bay++) {
            if (reservable(bay, size, begin, end) && (first == NONE || before(bay, first))) {
                first = bay;
            }
        }
        return first;
    }

    int reserve(int plate, int size, int begin, int end) {
        if (out(plate, 1, 999) || out(size, 0, 2) || out(begin, b.time, 20000)
                || out(end, begin + 1L, begin + 1440L)) {
            return INVALID;
        }
        int bay = bayToReserve(size, begin, end);
        if (b.reservations.size() == 16 || bay == NONE) {
            return ROOM;
        }
        save();
        int price = fee(0, end - begin);
        b.reservations.add(new Reservation(plate, bay, begin, end, price, 0));
        b.accounts[1] += price;
        return b.reservations.size() - 1;
    }

    int cancel(int reservation) {
        if (out(reservation, 0, b.reservations.size() - 1)) {
            return INVALID;
        }
        Reservation r = b.reservations.get(reservation);
        if (r.state() != 0) {
            return STATE;
        }
        save();
        int back = r.begin() > b.time ? r.price() / 2 : 0;
        b.accounts[1] -= back;
        b.reservations.set(reservation, r.in(3));
        return back;
    }

    int enter(int plate, int size) {
        if (out(plate, 1, 999) || out(size, 0, 2)) {
            return INVALID;
        }
        if (ticketOf(plate) != NONE) {
            return STATE;
        }
        int used = NONE;
        for (int r = b.reservations.size() - 1; r >= 0; r--) {
            if (b.reservations.get(r).plate() == plate && b.reservations.get(r).state() == 0 && holds(r, b.time)) {
                used = r;
            }
        }
        if (used != NONE) {
            int reserved = b.reservations.get(used).bay();
            if (!openFor(reserved, size) || ticketIn(reserved) != NONE) {
                used = NONE;
            }
        }
        int bay = used != NONE ? b.reservations.get(used).bay() : nearest(size);
        if (bay == NONE) {
            return ROOM;
        }
        save();
        if (used != NONE) {
            b.reservations.set(used, b.reservations.get(used).in(1));
        }
        b.tickets.add(new Ticket(plate, b.time, bay, used, true));
        return b.tickets.size();
    }

    private void out(int ticket) {
        Ticket t = b.tickets.get(ticket);
        b.tickets.set(ticket, new Ticket(t.plate(), t.entry(), t.bay(), t.reservation(), false));
        if (t.reservation() != NONE) {
            b.reservations.set(t.reservation(), b.reservations.get(t.reservation()).in(2));
        }
    }

    private int feeOf(int ticket, int minute) {
        Ticket t = b.tickets.get(ticket);
        if (t.reservation() == NONE) {
            return normal(minute - t.entry());
        }
        int end = b.reservations.get(t.reservation()).end();
        return minute <= end ? 0 : sum(1, minute - end);
    }

    private int lostFeeOf(int ticket) {
        int midnight = 0;
        while (midnight + 1440 <= b.time) {
            midnight += 1440;
        }
        int entry = b.tickets.get(ticket).entry();
        return b.numbers[4] + normal(b.time - (entry < midnight ? entry : midnight));
    }

    int leave(int ticket) {
        if (out(ticket, 1, b.tickets.size())) {
            return INVALID;
        }
        Ticket t = b.tickets.get(ticket - 1);
        if (!t.inside()) {
            return STATE;
        }
        save();
        int money = feeOf(ticket - 1, b.time);
        b.accounts[t.reservation() == NONE ? 0 : 2] += money;
        out(ticket - 1);
        return money;
    }

    int leaveLost(int plate) {
        if (out(plate, 1, 999)) {
            return INVALID;
        }
        int ticket = ticketOf(plate);
        if (ticket == NONE) {
            return STATE;
        }
        save();
        int money = lostFeeOf(ticket);
        b.accounts[3] += money;
        out(ticket);
        return money;
    }

    int pass(int minutes) {
        if (out(minutes, 1, 5000)) {
            return INVALID;
        }
        if (b.time + minutes > 20000) {
            return ROOM;
        }
        save();
        b.time += minutes;
        int expired = 0;
        for (int r = 0; r < b.reservations.size(); r++) {
            Reservation one = b.reservations.get(r);
            if (one.state() == 0 && one.end() <= b.time) {
                b.reservations.set(r, one.in(4));
                expired++;
            }
        }
        return expired;
    }

    int count(int what) {
        if (out(what, 0, 12)) {
            return INVALID;
        }
        int inside = (int) b.tickets.stream().filter(Ticket::inside).count();
        int[] all = {b.bays.size(), b.reservations.size(), b.tickets.size(), inside, b.tickets.size() - inside, b.time,
            b.numbers[0], b.numbers[1], b.numbers[2], b.numbers[3], b.numbers[4], text.length(), saved.size()};
        return all[what];
    }

    int bay(int bay, int what) {
        if (out(bay, 0, b.bays.size() - 1) || out(what, 0, 6)) {
            return INVALID;
        }
        Bay one = b.bays.get(bay);
        int car = ticketIn(bay);
        int[] all = {one.level(), one.position(), one.size(), way(bay), one.open() ? 1 : 0,
            car == NONE ? NONE : b.tickets.get(car).plate(), holder(bay, b.time)};
        return all[what];
    }

    int reservation(int reservation, int what) {
        if (out(reservation, 0, b.reservations.size() - 1) || out(what, 0, 5)) {
            return INVALID;
        }
        Reservation r = b.reservations.get(reservation);
        int[] all = {r.plate(), r.bay(), r.begin(), r.end(), r.price(), r.state()};
        return all[what];
    }

    int car(int plate, int what) {
        if (out(plate, 1, 999) || out(what, 0, 5)) {
            return INVALID;
        }
        int ticket = ticketOf(plate);
        if (ticket == NONE) {
            return NONE;
        }
        Ticket t = b.tickets.get(ticket);
        int[] all = {ticket + 1, t.entry(), t.bay(), t.reservation(), feeOf(ticket, b.time), lostFeeOf(ticket)};
        return all[what];
    }

    int step(int tariff, int index, int what) {
        if (out(tariff, 0, 1) || index < 0 || out(what, 0, 2)) {
            return INVALID;
        }
        List<Integer> starts = new ArrayList<>(b.tariffs.get(tariff).keySet());
        if (index >= starts.size()) {
            return NONE;
        }
        int start = starts.get(index);
        return what == 0 ? start : b.tariffs.get(tariff).get(start)[what - 1];
    }

    int account(int what) {
        if (out(what, -1, 3)) {
            return INVALID;
        }
        long all = b.accounts[0] + b.accounts[1] + b.accounts[2] + b.accounts[3];
        return Math.toIntExact(what < 0 ? all : b.accounts[what]);
    }

    int nearest(int size) {
        if (out(size, 0, 2)) {
            return INVALID;
        }
        int first = NONE;
        for (int bay = 0; bay < b.bays.size(); bay++) {
            if (openFor(bay, size) && ticketIn(bay) == NONE && holder(bay, b.time) == NONE
                    && (first == NONE || before(bay, first))) {
                first = bay;
            }
        }
        return first;
    }

    int free(int level, int size) {
        if (out(level, 0, 4) || out(size, -1, 2)) {
            return INVALID;
        }
        int free = 0;
        for (int bay = 0; bay < b.bays.size(); bay++) {
            Bay one = b.bays.get(bay);
            if (one.level() == level && (size == -1 || size == one.size()) && one.open()
                    && ticketIn(bay) == NONE && holder(bay, b.time) == NONE) {
                free++;
            }
        }
        return free;
    }

    private int sum(int tariff, int minutes) {
        long sum = 0;
        List<Integer> starts = new ArrayList<>(b.tariffs.get(tariff).keySet());
        for (int index = 0; index < starts.size(); index++) {
            int start = starts.get(index);
            int until = index + 1 < starts.size() ? Math.min(minutes, starts.get(index + 1)) : minutes;
            int[] step = b.tariffs.get(tariff).get(start);
            for (int minute = start; minute < until; minute += step[0]) {
                sum += step[1];
            }
        }
        return Math.toIntExact(sum);
    }

    private int normal(int minutes) {
        if (minutes <= b.numbers[2]) {
            return 0;
        }
        int most = 0;
        for (int day = 0; day < minutes; day += 1440) {
            most += b.numbers[3];
        }
        return Math.min(sum(0, minutes), most);
    }

    int fee(int tariff, int minutes) {
        if (out(tariff, 0, 1) || out(minutes, 0, 20000)) {
            return INVALID;
        }
        return tariff == 0 ? normal(minutes) : sum(1, minutes);
    }

    int minutesLeft(int plate) {
        if (out(plate, 1, 999)) {
            return INVALID;
        }
        int ticket = ticketOf(plate);
        if (ticket == NONE) {
            return NONE;
        }
        int left = 0;
        while (left < 1440 && feeOf(ticket, b.time + left + 1) <= feeOf(ticket, b.time)) {
            left++;
        }
        return left;
    }

    int freeFor(int bay) {
        if (out(bay, 0, b.bays.size() - 1)) {
            return INVALID;
        }
        for (int minutes = 0; b.time + minutes <= 21440; minutes++) {
            if (holder(bay, b.time + minutes) != NONE) {
                return minutes;
            }
        }
        return NONE;
    }

    int earliest(int size, int minutes) {
        if (out(size, 0, 2) || out(minutes, 1, 1440)) {
            return INVALID;
        }
        for (int begin = b.time; begin <= b.time + 1440 && begin <= 20000; begin++) {
            if (b.reservations.size() < 16 && bayToReserve(size, begin, begin + minutes) != NONE) {
                return begin;
            }
        }
        return NONE;
    }

    int undo() {
        if (saved.isEmpty()) {
            return STATE;
        }
        b = saved.removeLast();
        return saved.size();
    }
}
