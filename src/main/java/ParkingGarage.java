/** The books of a parking garage: bays, reservations, tickets, fees, accounts, and settings told by a text. */
public final class ParkingGarage {

    public static final int INVALID_ARGUMENT = -1;
    public static final int ILLEGAL_STATE = -2;
    public static final int CAPACITY_EXCEEDED = -3;
    public static final int NONE = -9;

    private static final int MAX_BAYS = 30;
    private static final int MAX_LEVEL = 4;
    private static final int MAX_POSITION = 99;
    private static final int MAX_SIZE = 2;
    private static final int MAX_PLATE = 999;

    private static final int MAX_STEPS = 5;
    private static final int MAX_START = 1440;
    private static final int MAX_UNIT = 240;
    private static final int MAX_PRICE = 5000;

    private static final int MAX_RESERVATIONS = 16;
    private static final int MAX_RESERVED_MINUTES = 1440;
    private static final int MAX_TIME = 20000;
    private static final int MAX_PASS = 5000;
    private static final int DAY = 1440;
    private static final int LOOK_AHEAD = 1440;

    private static final int MAX_CHARACTERS = 120;
    private static final int MAX_CHARACTER = 255;
    private static final int TEXT_ERROR = -10;

    private static final int MAX_SAVED = 6;

    /** The tariffs. */
    private static final int NORMAL = 0;
    private static final int OVER = 1;

    /** The numbers of setNumber(). */
    private static final int RAMP = 0;
    private static final int HOLDING = 1;
    private static final int GRACE = 2;
    private static final int DAY_LIMIT = 3;
    private static final int LOST = 4;
    private static final int NUMBERS = 5;
    private static final int[] NUMBER_LEAST = {1, 0, 0, 0, 0};
    private static final int[] NUMBER_GREATEST = {200, 120, 60, 99999, 99999};

    /** The accounts. */
    private static final int TICKET_FEES = 0;
    private static final int RESERVATION_PRICES = 1;
    private static final int OVERSTAY_FEES = 2;
    private static final int LOST_FEES = 3;
    private static final int ACCOUNTS = 4;

    /** The states of a reservation. */
    private static final int OPEN = 0;
    private static final int USED = 1;
    private static final int DONE = 2;
    private static final int CANCELED = 3;
    private static final int EXPIRED = 4;

    private final State now;
    private final State draft;
    private final History history;
    private final Text text;

    public ParkingGarage() {
        now = new State();
        draft = new State();
        history = new History();
        text = new Text();
    }

    // ---- settings

    public int addBay(int level, int position, int size) {
        if (!isWithin(level, 0, MAX_LEVEL) || !isWithin(position, 0, MAX_POSITION) || !isWithin(size, 0, MAX_SIZE)) {
            return INVALID_ARGUMENT;
        }
        if (now.bays.hasPlace(level, position)) {
            return ILLEGAL_STATE;
        }
        if (now.bays.isFull()) {
            return CAPACITY_EXCEEDED;
        }
        history.save(now);
        return now.bays.add(level, position, size);
    }

    public int setBay(int bay, int on) {
        if (!now.bays.has(bay) || !isWithin(on, 0, 1)) {
            return INVALID_ARGUMENT;
        }
        history.save(now);
        int previous = now.bays.on[bay];
        now.bays.on[bay] = on;
        return previous;
    }

    public int setStep(int tariff, int start, int unit, int price) {
        if (!isTariff(tariff) || !isWithin(start, 0, MAX_START)
                || !isWithin(unit, 0, MAX_UNIT) || !isWithin(price, 0, MAX_PRICE)) {
            return INVALID_ARGUMENT;
        }
        Tariff changed = now.tariff(tariff);
        if (unit == 0) {
            if (!changed.has(start)) {
                return ILLEGAL_STATE;
            }
            history.save(now);
            changed.remove(start);
            return changed.number;
        }
        if (!changed.hasRoomFor(start)) {
            return CAPACITY_EXCEEDED;
        }
        history.save(now);
        changed.put(start, unit, price);
        return changed.number;
    }

    public int setNumber(int what, int value) {
        if (!isWithin(what, 0, NUMBERS - 1) || !isWithin(value, NUMBER_LEAST[what], NUMBER_GREATEST[what])) {
            return INVALID_ARGUMENT;
        }
        history.save(now);
        int previous = now.numbers[what];
        now.numbers[what] = value;
        return previous;
    }

    // ---- text

    public int appendCharacter(int character) {
        if (!isWithin(character, 0, MAX_CHARACTER)) {
            return INVALID_ARGUMENT;
        }
        if (text.isFull()) {
            return CAPACITY_EXCEEDED;
        }
        text.append((char) character);
        return text.length;
    }

    public int clearText() {
        int previous = text.length;
        text.empty();
        return previous;
    }

    public int load() {
        draft.copyFrom(now);
        int items = text.carryOutOn(draft);
        if (items < 0) {
            return items;
        }
        history.save(now);
        now.copyFrom(draft);
        text.empty();
        return items;
    }

    // ---- cars

    public int reserve(int plate, int size, int begin, int end) {
        if (!isPlate(plate) || !isWithin(size, 0, MAX_SIZE) || !isWithin(begin, now.time, MAX_TIME)
                || !isWithin(end, begin + 1, begin + MAX_RESERVED_MINUTES)) {
            return INVALID_ARGUMENT;
        }
        int bay = now.firstReservable(size, begin, end);
        if (now.reservations.isFull() || !now.bays.has(bay)) {
            return CAPACITY_EXCEEDED;
        }
        history.save(now);
        int price = now.normalFee(end - begin);
        now.accounts[RESERVATION_PRICES] += price;
        return now.reservations.add(plate, bay, begin, end, price);
    }

    public int cancel(int reservation) {
        if (!now.reservations.has(reservation)) {
            return INVALID_ARGUMENT;
        }
        if (now.reservations.states[reservation] != OPEN) {
            return ILLEGAL_STATE;
        }
        history.save(now);
        int back = now.reservations.begins[reservation] > now.time ? now.reservations.prices[reservation] / 2 : 0;
        now.reservations.states[reservation] = CANCELED;
        now.accounts[RESERVATION_PRICES] -= back;
        return back;
    }

    public int enter(int plate, int size) {
        if (!isPlate(plate) || !isWithin(size, 0, MAX_SIZE)) {
            return INVALID_ARGUMENT;
        }
        if (now.bays.has(now.bays.withPlate(plate))) {
            return ILLEGAL_STATE;
        }
        int reservation = now.usableReservation(plate, size);
        int bay = now.reservations.has(reservation) ? now.reservations.bays[reservation] : now.firstFree(size);
        if (!now.bays.has(bay)) {
            return CAPACITY_EXCEEDED;
        }
        history.save(now);
        now.letIn(plate, bay, reservation);
        return now.tickets;
    }

    public int leave(int ticket) {
        if (!isWithin(ticket, 1, now.tickets)) {
            return INVALID_ARGUMENT;
        }
        int bay = now.bays.withTicket(ticket);
        if (!now.bays.has(bay)) {
            return ILLEGAL_STATE;
        }
        history.save(now);
        int money = now.feeAt(bay, now.time);
        boolean reserved = now.reservations.has(now.bays.reservations[bay]);
        now.accounts[reserved ? OVERSTAY_FEES : TICKET_FEES] += money;
        now.letOut(bay);
        return money;
    }

    public int leaveLost(int plate) {
        if (!isPlate(plate)) {
            return INVALID_ARGUMENT;
        }
        int bay = now.bays.withPlate(plate);
        if (!now.bays.has(bay)) {
            return ILLEGAL_STATE;
        }
        history.save(now);
        int money = now.lostFee(bay);
        now.accounts[LOST_FEES] += money;
        now.letOut(bay);
        return money;
    }

    public int pass(int minutes) {
        if (!isWithin(minutes, 1, MAX_PASS)) {
            return INVALID_ARGUMENT;
        }
        if (now.time + minutes > MAX_TIME) {
            return CAPACITY_EXCEEDED;
        }
        history.save(now);
        now.time += minutes;
        return now.reservations.expire(now.time);
    }

    // ---- looking

    public int count(int what) {
        switch (what) {
            case 0:
                return now.bays.number;
            case 1:
                return now.reservations.number;
            case 2:
                return now.tickets;
            case 3:
                return now.bays.cars();
            case 4:
                return now.tickets - now.bays.cars();
            case 5:
                return now.time;
            case 6:
            case 7:
            case 8:
            case 9:
            case 10:
                return now.numbers[what - 6];
            case 11:
                return text.length;
            case 12:
                return history.number;
            default:
                return INVALID_ARGUMENT;
        }
    }

    public int bay(int bay, int what) {
        if (!now.bays.has(bay)) {
            return INVALID_ARGUMENT;
        }
        switch (what) {
            case 0:
                return now.bays.levels[bay];
            case 1:
                return now.bays.positions[bay];
            case 2:
                return now.bays.sizes[bay];
            case 3:
                return now.way(bay);
            case 4:
                return now.bays.on[bay];
            case 5:
                return now.bays.isEmpty(bay) ? NONE : now.bays.plates[bay];
            case 6:
                return now.holder(bay);
            default:
                return INVALID_ARGUMENT;
        }
    }

    public int reservation(int reservation, int what) {
        if (!now.reservations.has(reservation)) {
            return INVALID_ARGUMENT;
        }
        switch (what) {
            case 0:
                return now.reservations.plates[reservation];
            case 1:
                return now.reservations.bays[reservation];
            case 2:
                return now.reservations.begins[reservation];
            case 3:
                return now.reservations.ends[reservation];
            case 4:
                return now.reservations.prices[reservation];
            case 5:
                return now.reservations.states[reservation];
            default:
                return INVALID_ARGUMENT;
        }
    }

    public int car(int plate, int what) {
        if (!isPlate(plate) || !isWithin(what, 0, 5)) {
            return INVALID_ARGUMENT;
        }
        int bay = now.bays.withPlate(plate);
        if (!now.bays.has(bay)) {
            return NONE;
        }
        switch (what) {
            case 0:
                return now.bays.tickets[bay];
            case 1:
                return now.bays.entries[bay];
            case 2:
                return bay;
            case 3:
                return now.bays.reservations[bay];
            case 4:
                return now.feeAt(bay, now.time);
            default:
                return now.lostFee(bay);
        }
    }

    public int step(int tariff, int index, int what) {
        if (!isTariff(tariff) || index < 0 || !isWithin(what, 0, 2)) {
            return INVALID_ARGUMENT;
        }
        Tariff asked = now.tariff(tariff);
        if (index >= asked.number) {
            return NONE;
        }
        switch (what) {
            case 0:
                return asked.starts[index];
            case 1:
                return asked.units[index];
            default:
                return asked.prices[index];
        }
    }

    public int account(int what) {
        if (!isWithin(what, -1, ACCOUNTS - 1)) {
            return INVALID_ARGUMENT;
        }
        return what < 0 ? now.sumOfAccounts() : now.accounts[what];
    }

    public int nearest(int size) {
        if (!isWithin(size, 0, MAX_SIZE)) {
            return INVALID_ARGUMENT;
        }
        return now.firstFree(size);
    }

    public int free(int level, int size) {
        if (!isWithin(level, 0, MAX_LEVEL) || !isWithin(size, -1, MAX_SIZE)) {
            return INVALID_ARGUMENT;
        }
        return now.freeBays(level, size);
    }

    public int fee(int tariff, int minutes) {
        if (!isTariff(tariff) || !isWithin(minutes, 0, MAX_TIME)) {
            return INVALID_ARGUMENT;
        }
        return tariff == NORMAL ? now.normalFee(minutes) : now.over.sum(minutes);
    }

    // ---- what would be (nothing changes)

    public int minutesLeft(int plate) {
        if (!isPlate(plate)) {
            return INVALID_ARGUMENT;
        }
        int bay = now.bays.withPlate(plate);
        return now.bays.has(bay) ? now.minutesAtThisFee(bay) : NONE;
    }

    public int freeFor(int bay) {
        if (!now.bays.has(bay)) {
            return INVALID_ARGUMENT;
        }
        if (now.isHeld(bay)) {
            return 0;
        }
        return now.reservations.minutesUntilHeld(bay, now.time, now.numbers[HOLDING]);
    }

    public int earliest(int size, int minutes) {
        if (!isWithin(size, 0, MAX_SIZE) || !isWithin(minutes, 1, MAX_RESERVED_MINUTES)) {
            return INVALID_ARGUMENT;
        }
        return now.reservations.isFull() ? NONE : now.earliestBegin(size, minutes);
    }

    public int undo() {
        if (history.number == 0) {
            return ILLEGAL_STATE;
        }
        history.restore(now);
        return history.number;
    }

    private static boolean isWithin(int value, int least, int greatest) {
        return value >= least && value <= greatest;
    }

    private static boolean isPlate(int plate) {
        return isWithin(plate, 1, MAX_PLATE);
    }

    private static boolean isTariff(int tariff) {
        return tariff == NORMAL || tariff == OVER;
    }

    private static void copyRow(int[] from, int[] to) {
        System.arraycopy(from, 0, to, 0, Math.min(from.length, to.length));
    }

    /** The bays, each with the car that is in it: a car inside is always in just one bay. */
    private static final class Bays {
        private static final int NO_PLATE = 0;

        int number = 0;
        final int[] levels = new int[MAX_BAYS];
        final int[] positions = new int[MAX_BAYS];
        final int[] sizes = new int[MAX_BAYS];
        final int[] on = new int[MAX_BAYS];
        final int[] plates = new int[MAX_BAYS];
        final int[] tickets = new int[MAX_BAYS];
        final int[] entries = new int[MAX_BAYS];
        final int[] reservations = new int[MAX_BAYS];

        void copyFrom(Bays other) {
            number = other.number;
            copyRow(other.levels, levels);
            copyRow(other.positions, positions);
            copyRow(other.sizes, sizes);
            copyRow(other.on, on);
            copyRow(other.plates, plates);
            copyRow(other.tickets, tickets);
            copyRow(other.entries, entries);
            copyRow(other.reservations, reservations);
        }

        boolean has(int bay) {
            return bay >= 0 && bay < number;
        }

        boolean isFull() {
            return number >= MAX_BAYS;
        }

        boolean hasPlace(int level, int position) {
            for (int bay = 0; bay < number; bay++) {
                if (levels[bay] == level && positions[bay] == position) {
                    return true;
                }
            }
            return false;
        }

        int add(int level, int position, int size) {
            if (isFull()) {
                return NONE;
            }
            int bay = number;
            number++;
            levels[bay] = level;
            positions[bay] = position;
            sizes[bay] = size;
            on[bay] = 1;
            clear(bay);
            return bay;
        }

        void clear(int bay) {
            if (has(bay)) {
                plates[bay] = NO_PLATE;
                tickets[bay] = 0;
                entries[bay] = 0;
                reservations[bay] = NONE;
            }
        }

        boolean isEmpty(int bay) {
            return has(bay) && plates[bay] == NO_PLATE;
        }

        /** Open and large enough; a car may be in it. */
        boolean serves(int bay, int size) {
            return has(bay) && on[bay] == 1 && sizes[bay] >= size;
        }

        int withPlate(int plate) {
            for (int bay = 0; bay < number; bay++) {
                if (plates[bay] == plate) {
                    return bay;
                }
            }
            return NONE;
        }

        int withTicket(int ticket) {
            for (int bay = 0; bay < number; bay++) {
                if (tickets[bay] == ticket) {
                    return bay;
                }
            }
            return NONE;
        }

        int cars() {
            int cars = 0;
            for (int bay = 0; bay < number; bay++) {
                if (!isEmpty(bay)) {
                    cars++;
                }
            }
            return cars;
        }
    }

    /** The reservations; holding is always the holding time as it is now. */
    private static final class Reservations {
        int number = 0;
        final int[] plates = new int[MAX_RESERVATIONS];
        final int[] bays = new int[MAX_RESERVATIONS];
        final int[] begins = new int[MAX_RESERVATIONS];
        final int[] ends = new int[MAX_RESERVATIONS];
        final int[] prices = new int[MAX_RESERVATIONS];
        final int[] states = new int[MAX_RESERVATIONS];

        void copyFrom(Reservations other) {
            number = other.number;
            copyRow(other.plates, plates);
            copyRow(other.bays, bays);
            copyRow(other.begins, begins);
            copyRow(other.ends, ends);
            copyRow(other.prices, prices);
            copyRow(other.states, states);
        }

        boolean has(int reservation) {
            return reservation >= 0 && reservation < number;
        }

        boolean isFull() {
            return number >= MAX_RESERVATIONS;
        }

        int add(int plate, int bay, int begin, int end, int price) {
            if (isFull()) {
                return NONE;
            }
            int reservation = number;
            number++;
            plates[reservation] = plate;
            bays[reservation] = bay;
            begins[reservation] = begin;
            ends[reservation] = end;
            prices[reservation] = price;
            states[reservation] = OPEN;
            return reservation;
        }

        boolean isAlive(int reservation) {
            return has(reservation) && (states[reservation] == OPEN || states[reservation] == USED);
        }

        /** Whether it holds its bay at a minute from the first one on and before the other one. */
        boolean holdsBetween(int reservation, int from, int until, int holding) {
            return isAlive(reservation) && begins[reservation] - holding < until && from < ends[reservation];
        }

        /** The first reservation that holds the bay at a minute from the first one on and before the other one. */
        int holderBetween(int bay, int from, int until, int holding) {
            for (int reservation = 0; reservation < number; reservation++) {
                if (bays[reservation] == bay && holdsBetween(reservation, from, until, holding)) {
                    return reservation;
                }
            }
            return NONE;
        }

        int firstOpenOf(int plate, int time, int holding) {
            for (int reservation = 0; reservation < number; reservation++) {
                if (plates[reservation] == plate && states[reservation] == OPEN
                        && holdsBetween(reservation, time, time + 1, holding)) {
                    return reservation;
                }
            }
            return NONE;
        }

        /** For a bay that is not held at this time. */
        int minutesUntilHeld(int bay, int time, int holding) {
            int least = NONE;
            for (int reservation = 0; reservation < number; reservation++) {
                int minutes = begins[reservation] - holding - time;
                if (bays[reservation] == bay && isAlive(reservation) && minutes > 0
                        && (least == NONE || minutes < least)) {
                    least = minutes;
                }
            }
            return least;
        }

        int expire(int time) {
            int expired = 0;
            for (int reservation = 0; reservation < number; reservation++) {
                if (states[reservation] == OPEN && ends[reservation] <= time) {
                    states[reservation] = EXPIRED;
                    expired++;
                }
            }
            return expired;
        }
    }

    /** The steps of a tariff, ordered by their starts. */
    private static final class Tariff {
        int number = 0;
        final int[] starts = new int[MAX_STEPS];
        final int[] units = new int[MAX_STEPS];
        final int[] prices = new int[MAX_STEPS];

        void copyFrom(Tariff other) {
            number = other.number;
            copyRow(other.starts, starts);
            copyRow(other.units, units);
            copyRow(other.prices, prices);
        }

        /** The index of the first step that does not start ahead of this; the number of steps, if there is none. */
        int placeOf(int start) {
            for (int index = 0; index < number; index++) {
                if (starts[index] >= start) {
                    return index;
                }
            }
            return number;
        }

        boolean has(int start) {
            int index = placeOf(start);
            return index < number && starts[index] == start;
        }

        boolean hasRoomFor(int start) {
            return number < MAX_STEPS || has(start);
        }

        void put(int start, int unit, int price) {
            int index = placeOf(start);
            boolean replaces = index < number && starts[index] == start;
            if (!replaces && number >= MAX_STEPS) {
                return;
            }
            if (!replaces) {
                for (int later = number; later > index; later--) {
                    move(later - 1, later);
                }
                number++;
            }
            starts[index] = start;
            units[index] = unit;
            prices[index] = price;
        }

        void remove(int start) {
            if (!has(start)) {
                return;
            }
            for (int later = placeOf(start) + 1; later < number; later++) {
                move(later, later - 1);
            }
            number--;
        }

        private void move(int from, int to) {
            starts[to] = starts[from];
            units[to] = units[from];
            prices[to] = prices[from];
        }

        int sum(int minutes) {
            int sum = 0;
            for (int index = 0; index < number && starts[index] < minutes; index++) {
                boolean last = index + 1 >= number;
                int until = last ? minutes : Math.min(minutes, starts[index + 1]);
                sum += prices[index] * unitsIn(until - starts[index], units[index]);
            }
            return sum;
        }

        private static int unitsIn(int minutes, int unit) {
            return unit > 0 ? (minutes + unit - 1) / unit : 0;
        }
    }

    /** Everything that undo() brings back: all but the text. */
    private static final class State {
        int time = 0;
        int tickets = 0;
        final int[] numbers = {50, 15, 10, 2000, 2500};
        final int[] accounts = new int[ACCOUNTS];
        final Bays bays = new Bays();
        final Reservations reservations = new Reservations();
        final Tariff normal = new Tariff();
        final Tariff over = new Tariff();

        State() {
            normal.put(0, 60, 200);
            over.put(0, 15, 300);
        }

        void copyFrom(State other) {
            time = other.time;
            tickets = other.tickets;
            copyRow(other.numbers, numbers);
            copyRow(other.accounts, accounts);
            bays.copyFrom(other.bays);
            reservations.copyFrom(other.reservations);
            normal.copyFrom(other.normal);
            over.copyFrom(other.over);
        }

        Tariff tariff(int which) {
            return which == NORMAL ? normal : over;
        }

        int sumOfAccounts() {
            int sum = 0;
            for (int money : accounts) {
                sum += money;
            }
            return sum;
        }

        int way(int bay) {
            return bays.has(bay) ? bays.levels[bay] * numbers[RAMP] + bays.positions[bay] : 0;
        }

        /** For a bay whose number is greater than the other one's, so that this one loses where all else is equal. */
        private boolean isBefore(int bay, int other) {
            if (!bays.has(bay) || !bays.has(other)) {
                return bays.has(bay);
            }
            int way = way(bay);
            int otherWay = way(other);
            return way < otherWay || way == otherWay && bays.sizes[bay] < bays.sizes[other];
        }

        int holder(int bay) {
            return reservations.holderBetween(bay, time, time + 1, numbers[HOLDING]);
        }

        boolean isHeld(int bay) {
            return reservations.has(reservations.holderBetween(bay, time, time + 1, numbers[HOLDING]));
        }

        int firstFree(int size) {
            int first = NONE;
            for (int bay = 0; bay < bays.number; bay++) {
                if (bays.serves(bay, size) && bays.isEmpty(bay) && !isHeld(bay) && isBefore(bay, first)) {
                    first = bay;
                }
            }
            return first;
        }

        int freeBays(int level, int size) {
            int free = 0;
            for (int bay = 0; bay < bays.number; bay++) {
                boolean asked = bays.levels[bay] == level && (size < 0 || bays.sizes[bay] == size);
                if (asked && bays.serves(bay, 0) && bays.isEmpty(bay) && !isHeld(bay)) {
                    free++;
                }
            }
            return free;
        }

        int firstReservable(int size, int begin, int end) {
            int first = NONE;
            for (int bay = 0; bay < bays.number; bay++) {
                if (bays.serves(bay, size) && isReservable(bay, begin, end) && isBefore(bay, first)) {
                    first = bay;
                }
            }
            return first;
        }

        private boolean isReservable(int bay, int begin, int end) {
            int from = begin - numbers[HOLDING];
            boolean inTheWay = from <= time && !bays.isEmpty(bay);
            return !inTheWay && !reservations.has(reservations.holderBetween(bay, from, end, numbers[HOLDING]));
        }

        int earliestBegin(int size, int minutes) {
            int earliest = NONE;
            for (int bay = 0; bay < bays.number; bay++) {
                if (bays.serves(bay, size)) {
                    int begin = earliestBeginIn(bay, minutes);
                    boolean inReach = begin <= time + LOOK_AHEAD && begin <= MAX_TIME;
                    if (inReach && (earliest == NONE || begin < earliest)) {
                        earliest = begin;
                    }
                }
            }
            return earliest;
        }

        /** Whatever forbids a begin forbids all later ones up to its own end: so each obstacle is passed once. */
        private int earliestBeginIn(int bay, int minutes) {
            int holding = numbers[HOLDING];
            int begin = bays.isEmpty(bay) ? time : time + holding + 1;
            for (int passed = 0; passed < MAX_RESERVATIONS; passed++) {
                int holder = reservations.holderBetween(bay, begin - holding, begin + minutes, holding);
                if (!reservations.has(holder)) {
                    return begin;
                }
                begin = reservations.ends[holder] + holding;
            }
            return begin;
        }

        /** The reservation with which a car of this size enters; only the first one that holds now is looked at. */
        int usableReservation(int plate, int size) {
            int reservation = reservations.firstOpenOf(plate, time, numbers[HOLDING]);
            if (!reservations.has(reservation)) {
                return NONE;
            }
            int bay = reservations.bays[reservation];
            return bays.serves(bay, size) && bays.isEmpty(bay) ? reservation : NONE;
        }

        void letIn(int plate, int bay, int reservation) {
            if (!bays.has(bay)) {
                return;
            }
            tickets++;
            bays.plates[bay] = plate;
            bays.tickets[bay] = tickets;
            bays.entries[bay] = time;
            bays.reservations[bay] = reservation;
            if (reservations.has(reservation)) {
                reservations.states[reservation] = USED;
            }
        }

        void letOut(int bay) {
            if (!bays.has(bay)) {
                return;
            }
            int reservation = bays.reservations[bay];
            if (reservations.has(reservation)) {
                reservations.states[reservation] = DONE;
            }
            bays.clear(bay);
        }

        int normalFee(int minutes) {
            if (minutes <= numbers[GRACE]) {
                return 0;
            }
            int days = (minutes + DAY - 1) / DAY;
            return Math.min(normal.sum(minutes), numbers[DAY_LIMIT] * days);
        }

        /** The fee of the car in the bay, if it left at this minute. */
        int feeAt(int bay, int minute) {
            if (!bays.has(bay)) {
                return 0;
            }
            int reservation = bays.reservations[bay];
            if (!reservations.has(reservation)) {
                return normalFee(minute - bays.entries[bay]);
            }
            return over.sum(minute - reservations.ends[reservation]);
        }

        int lostFee(int bay) {
            if (!bays.has(bay)) {
                return 0;
            }
            int dayBegin = time - time % DAY;
            int since = Math.min(dayBegin, bays.entries[bay]);
            return numbers[LOST] + normalFee(time - since);
        }

        int minutesAtThisFee(int bay) {
            int fee = feeAt(bay, time);
            for (int minutes = 1; minutes <= LOOK_AHEAD; minutes++) {
                if (feeAt(bay, time + minutes) > fee) {
                    return minutes - 1;
                }
            }
            return LOOK_AHEAD;
        }
    }

    /** The states that are saved for undo(), the oldest one first; all rooms are made once and used again. */
    private static final class History {
        int number = 0;
        private final State[] states = new State[MAX_SAVED];

        History() {
            for (int index = 0; index < MAX_SAVED; index++) {
                states[index] = new State();
            }
        }

        void save(State state) {
            if (number >= MAX_SAVED) {
                dropOldest();
            }
            states[number].copyFrom(state);
            number++;
        }

        private void dropOldest() {
            State room = states[0];
            for (int index = 1; index < MAX_SAVED; index++) {
                states[index - 1] = states[index];
            }
            states[MAX_SAVED - 1] = room;
            number = MAX_SAVED - 1;
        }

        void restore(State state) {
            if (number > 0) {
                number--;
                state.copyFrom(states[number]);
            }
        }
    }

    /** The text of settings, and the token of it that is being read: from tokenStart to before tokenEnd. */
    private static final class Text {
        private static final int END = 0;
        private static final int WORD = 1;
        private static final int NUMBER = 2;
        private static final int OTHER = 3;
        private static final int BEYOND = 1000000;
        private static final int WRONG = -1;

        int length = 0;
        private final char[] characters = new char[MAX_CHARACTERS];
        private int tokenKind = END;
        private int tokenStart = 0;
        private int tokenEnd = 0;

        boolean isFull() {
            return length >= MAX_CHARACTERS;
        }

        void append(char character) {
            if (!isFull()) {
                characters[length] = character;
                length++;
            }
        }

        void empty() {
            length = 0;
        }

        /** Returns the number of items, or TEXT_ERROR less the position of the token that is not allowed. */
        int carryOutOn(State state) {
            tokenEnd = 0;
            for (int items = 0; items <= MAX_CHARACTERS; items++) {
                readToken();
                if (tokenKind == END) {
                    return items;
                }
                if (!carryOutItem(state)) {
                    return TEXT_ERROR - tokenStart;
                }
            }
            return TEXT_ERROR - tokenStart;
        }

        /** Each of these answers false as soon as the token that was read last is not allowed. */
        private boolean carryOutItem(State state) {
            if (isWord("bay")) {
                return carryOutBay(state);
            }
            if (isWord("step")) {
                return carryOutStep(state);
            }
            if (isWord("grace")) {
                return carryOutNumber(state, GRACE);
            }
            return isWord("ramp") && carryOutNumber(state, RAMP);
        }

        private boolean carryOutBay(State state) {
            if (state.bays.isFull()) {
                return false;
            }
            int size = readSize();
            if (size == WRONG) {
                return false;
            }
            int level = readNumber(0, MAX_LEVEL);
            if (level == WRONG) {
                return false;
            }
            int position = readNumber(0, MAX_POSITION);
            if (position == WRONG || state.bays.hasPlace(level, position) || !readSemicolon()) {
                return false;
            }
            state.bays.add(level, position, size);
            return true;
        }

        private boolean carryOutStep(State state) {
            int which = readTariff();
            if (which == WRONG) {
                return false;
            }
            Tariff tariff = state.tariff(which);
            int start = readNumber(0, MAX_START);
            if (start == WRONG || !tariff.hasRoomFor(start)) {
                return false;
            }
            int unit = readNumber(1, MAX_UNIT);
            if (unit == WRONG) {
                return false;
            }
            int price = readNumber(0, MAX_PRICE);
            if (price == WRONG || !readSemicolon()) {
                return false;
            }
            tariff.put(start, unit, price);
            return true;
        }

        private boolean carryOutNumber(State state, int what) {
            if (!isWithin(what, 0, NUMBERS - 1)) {
                return false;
            }
            int value = readNumber(NUMBER_LEAST[what], NUMBER_GREATEST[what]);
            if (value == WRONG || !readSemicolon()) {
                return false;
            }
            state.numbers[what] = value;
            return true;
        }

        private int readSize() {
            readToken();
            if (isWord("small")) {
                return 0;
            }
            if (isWord("medium")) {
                return 1;
            }
            return isWord("large") ? 2 : WRONG;
        }

        private int readTariff() {
            readToken();
            if (isWord("normal")) {
                return NORMAL;
            }
            return isWord("over") ? OVER : WRONG;
        }

        private int readNumber(int least, int greatest) {
            readToken();
            if (tokenKind != NUMBER) {
                return WRONG;
            }
            boolean zeroAhead = characterAt(tokenStart) == '0' && tokenEnd - tokenStart > 1;
            int value = tokenValue();
            return !zeroAhead && isWithin(value, least, greatest) ? value : WRONG;
        }

        private boolean readSemicolon() {
            readToken();
            return tokenKind == OTHER && characterAt(tokenStart) == ';';
        }

        /** The number that the token tells; it stops to grow beyond all ranges. */
        private int tokenValue() {
            int value = 0;
            for (int offset = tokenStart; offset < tokenEnd && value < BEYOND; offset++) {
                value = value * 10 + (characterAt(offset) - '0');
            }
            return value;
        }

        private boolean isWord(String word) {
            if (tokenKind != WORD || tokenEnd - tokenStart != word.length()) {
                return false;
            }
            for (int index = 0; index < word.length(); index++) {
                if (characterAt(tokenStart + index) != word.charAt(index)) {
                    return false;
                }
            }
            return true;
        }

        /** Goes on to the token behind this one; behind the last one stands END, at the length of the text. */
        private void readToken() {
            tokenStart = behindRun(tokenEnd, ' ', ' ');
            if (tokenStart >= length) {
                tokenKind = END;
                tokenEnd = tokenStart;
                return;
            }
            char first = characterAt(tokenStart);
            if (first >= 'a' && first <= 'z') {
                tokenKind = WORD;
                tokenEnd = behindRun(tokenStart, 'a', 'z');
            } else if (first >= '0' && first <= '9') {
                tokenKind = NUMBER;
                tokenEnd = behindRun(tokenStart, '0', '9');
            } else {
                tokenKind = OTHER;
                tokenEnd = tokenStart + 1;
            }
        }

        /** The offset of the first character, from this one on, that is not between the two. */
        private int behindRun(int offset, char least, char greatest) {
            int behind = Math.max(offset, 0);
            while (behind < length && behind < MAX_CHARACTERS
                    && characters[behind] >= least && characters[behind] <= greatest) {
                behind++;
            }
            return behind;
        }

        private char characterAt(int offset) {
            return offset >= 0 && offset < length && offset < MAX_CHARACTERS ? characters[offset] : ' ';
        }
    }
}
