/** The meter of a cab that drops coins by way or by time, whichever goes faster. */
public final class FareDrops {
    public static final int NO_SUCH = -1, BAD_VALUE = -2, BAD_TEXT = -3, TOO_MANY = -4, NOT_POSSIBLE = -5, NONE = -6;

    private static final int TARIFFS = 3;
    private static final int HOURS = 24;
    private static final int HOUR = 3600;
    private static final int DAY = HOURS * HOUR;

    private static final int FREE = 0;
    private static final int RUNS = 1;
    private static final int HALTS = 2;

    private static final int MOST_FARE = 9999999;
    private static final int MOST_EXTRAS = 9;
    private static final int MOST_EXTRA_PRICE = 99;
    private static final int MOST_NUMBER = 9999;
    private static final int INCOME_ROUND = 1000000;
    private static final int FARTHEST = 999;

    private final Meter meter = new Meter();
    private final History history = new History();
    private final Slots slots = new Slots();
    private final Pad pad = new Pad();
    private final Orders orders = new Orders();
    private final Drive drive = new Drive();

    /** Creates a free meter at the second 0. */
    public FareDrops() {
    }

    // ---- changes

    /** Changes a tariff; returns its previous drop. */
    public int tariff(int tariff, int begin, int drop, int way, int time) {
        if (!isIn(tariff, 0, TARIFFS - 1)) {
            return NO_SUCH;
        }
        if (!isIn(begin, 0, 999) || !isIn(drop, 1, 99) || !isIn(way, 1, 999) || !isIn(time, 1, 999)) {
            return BAD_VALUE;
        }
        history.draft(meter);
        int previous = meter.tariffs.about(tariff, Tariffs.DROP);
        meter.tariffs.change(tariff, Tariffs.BEGIN, begin);
        meter.tariffs.change(tariff, Tariffs.DROP, drop);
        meter.tariffs.change(tariff, Tariffs.WAY, way);
        meter.tariffs.change(tariff, Tariffs.TIME, time);
        return history.settle(previous);
    }

    /** Changes the tariff of an hour; returns the previous one. */
    public int hour(int hour, int tariff) {
        if (!isIn(hour, 0, HOURS - 1) || !isIn(tariff, 0, TARIFFS - 1)) {
            return NO_SUCH;
        }
        history.draft(meter);
        int previous = meter.tariffs.ofHour(hour);
        meter.tariffs.giveHour(hour, tariff);
        return history.settle(previous);
    }

    /** Changes what an extra costs from now on; returns what it cost. */
    public int priceOfExtra(int coins) {
        if (!isIn(coins, 0, MOST_EXTRA_PRICE)) {
            return BAD_VALUE;
        }
        history.draft(meter);
        int previous = meter.extraPrice;
        meter.extraPrice = coins;
        return history.settle(previous);
    }

    /** A ride begins; returns the tariff by which its fare begins. */
    public int hire() {
        history.draft(meter);
        return history.settle(meter.beginRide());
    }

    /** The cab drives; returns how many drops there are in it. */
    public int drive(int pulses, int seconds) {
        history.draft(meter);
        return history.settle(meter.makeDrive(drive, pulses, seconds));
    }

    /** Time goes by while the meter is free, or halts; returns the second of the day then. */
    public int rest(int seconds) {
        history.draft(meter);
        return history.settle(meter.letTimePass(seconds));
    }

    /** The meter halts, or runs on; returns how it is then. */
    public int halt() {
        history.draft(meter);
        return history.settle(meter.turnHalt());
    }

    /** An extra is taken; returns how many the ride has then. */
    public int extra() {
        history.draft(meter);
        return history.settle(meter.takeExtra());
    }

    /** The ride ends; returns the fare with extras. */
    public int end() {
        history.draft(meter);
        return history.settle(meter.endRide());
    }

    // ---- what there is

    /** Returns a number of a tariff, or how many hours have it. */
    public int ofTariff(int tariff, int what) {
        if (!isIn(tariff, 0, TARIFFS - 1)) {
            return NO_SUCH;
        }
        if (!isIn(what, 0, Tariffs.NUMBERS)) {
            return BAD_VALUE;
        }
        return what == Tariffs.NUMBERS ? meter.tariffs.hoursOf(tariff) : meter.tariffs.about(tariff, what);
    }

    /** Returns a number of the ride that goes on, or of the one that ended last. */
    public int ride(int what) {
        Ride ride = meter.ride;
        switch (what) {
            case 0: return ride.fare;
            case 1: return ride.extraCoins;
            case 2: return ride.pulses;
            case 3: return ride.driveSeconds;
            case 4: return ride.haltSeconds;
            case 5: return ride.dropsByWay;
            case 6: return ride.dropsByTime;
            case 7: return ride.extras;
            case 8: return ride.rest;
            default: return BAD_VALUE;
        }
    }

    /** Returns a number of a ride that ended. */
    public int log(int ago, int what) {
        if (!isIn(ago, 0, meter.log.size - 1)) {
            return NO_SUCH;
        }
        if (!isIn(what, 0, Log.NUMBERS - 1)) {
            return BAD_VALUE;
        }
        return meter.log.about(ago, what);
    }

    /** Returns a number of the meter, of its pad or of its history. */
    public int count(int what) {
        switch (what) {
            case 0: return meter.second;
            case 1: return meter.state;
            case 2: return meter.tariffs.ofSecond(meter.second);
            case 3: return meter.extraPrice;
            case 4: return meter.ended;
            case 5: return meter.income;
            case 6: return meter.log.size;
            case 7: return pad.length;
            case 8: return history.size;
            default: return BAD_VALUE;
        }
    }

    // ---- what if; nothing changes

    /** Tells by how many coins the fare would grow by a drive. */
    public int would(int pulses, int seconds) {
        if (!isDrive(pulses, seconds)) {
            return BAD_VALUE;
        }
        if (meter.state != RUNS) {
            return NOT_POSSIBLE;
        }
        drive.goOnFrom(meter.ride);
        drive.run(meter.tariffs, meter.second, pulses, seconds);
        return drive.fare - meter.ride.fare;
    }

    /** Tells what a ride would cost that was hired now and was one drive. */
    public int price(int pulses, int seconds) {
        return isDrive(pulses, seconds) ? priceAt(meter.second, pulses, seconds) : BAD_VALUE;
    }

    /** Finds the greatest number of pulses for which such a ride costs no more than told. */
    public int farthest(int seconds, int coins) {
        if (!isIn(seconds, 1, FARTHEST) || coins < 0) {
            return BAD_VALUE;
        }
        if (priceAt(meter.second, 0, seconds) > coins) {
            return NONE;
        }
        // More pulses can cost less where a rest is carried to a dearer tariff, so each number is tried.
        int pulses = FARTHEST;
        while (pulses > 0 && priceAt(meter.second, pulses, seconds) > coins) {
            pulses--;
        }
        return pulses;
    }

    /** Finds the hour at whose beginning such a ride costs the least, or what it costs then. */
    public int cheapest(int pulses, int seconds, int what) {
        if (!isDrive(pulses, seconds) || !isIn(what, 0, 1)) {
            return BAD_VALUE;
        }
        int best = 0;
        int least = priceAt(0, pulses, seconds);
        for (int hour = 1; hour < HOURS; hour++) {
            int cost = priceAt(hour * HOUR, pulses, seconds);
            if (cost < least) {
                best = hour;
                least = cost;
            }
        }
        return what == 0 ? best : least;
    }

    // ---- texts

    /** Appends the characters of a number to the pad; returns its length then. */
    public int put(long characters) {
        int added = Pad.countOf(characters);
        if (added == 0) {
            return BAD_VALUE;
        }
        if (added > Pad.MOST - pad.length) {
            return TOO_MANY;
        }
        pad.append(characters, added);
        return pad.length;
    }

    /** Empties the pad; returns the length that it had. */
    public int wipe() {
        int previous = pad.length;
        pad.length = 0;
        return previous;
    }

    /** Returns the index of the first wrong character of the pad, NONE if there is none. */
    public int fault() {
        return orders.faultOf(pad);
    }

    /** Carries the orders of the pad out, as one change; returns how many were carried out. */
    public int carryOut() {
        if (orders.faultOf(pad) != NONE) {
            return BAD_TEXT;
        }
        history.draft(meter);
        int carried = 0;
        boolean refused = false;
        orders.start();
        for (int i = 0; i <= pad.length && !refused; i++) {
            // The end of the text ends an order as a semicolon does.
            char sign = i < pad.length ? pad.signAt(i) : ';';
            if (sign == ';') {
                refused = carryOrder() < 0;
                carried += refused ? 0 : 1;
            }
            orders.take(sign);
        }
        pad.length = 0;
        return history.settle(carried);
    }

    // ---- undo, saving

    /** Undoes the latest change; returns how many can be undone then. */
    public int undo() {
        if (history.size == 0) {
            return NOT_POSSIBLE;
        }
        history.takeBack(meter);
        return history.size;
    }

    /** Saves the meter in a slot; returns how many rides ended so far. */
    public int save(int slot) {
        if (!isIn(slot, 0, Slots.SLOTS - 1)) {
            return BAD_VALUE;
        }
        slots.store(slot, meter);
        return meter.ended;
    }

    /** Restores what a slot has; returns how many rides ended so far then. */
    public int restore(int slot) {
        if (!isIn(slot, 0, Slots.SLOTS - 1)) {
            return BAD_VALUE;
        }
        history.draft(meter);
        return history.settle(slots.fetch(slot, meter));
    }

    private int priceAt(int second, int pulses, int seconds) {
        drive.startNew(meter.tariffs, second);
        drive.run(meter.tariffs, second, pulses, seconds);
        return drive.fare;
    }

    /** Carries out the order that was read last. */
    private int carryOrder() {
        switch (orders.letter) {
            case 'h': return meter.beginRide();
            case 'd': return meter.makeDrive(drive, orders.first, orders.number);
            case 'w': return meter.letTimePass(orders.number);
            case 's': return meter.turnHalt();
            case 'x': return meter.takeExtra();
            case 'e': return meter.endRide();
            default: return BAD_VALUE;
        }
    }

    private static boolean isIn(int value, int least, int most) {
        return value >= least && value <= most;
    }

    private static boolean isDrive(int pulses, int seconds) {
        return isIn(pulses, 0, MOST_NUMBER) && isIn(seconds, 1, MOST_NUMBER);
    }

    private static int at(int[] row, int index) {
        return index >= 0 && index < row.length ? row[index] : 0;
    }

    private static void setAt(int[] row, int index, int value) {
        if (index >= 0 && index < row.length) {
            row[index] = value;
        }
    }

    private static void copyRow(int[] from, int[] to) {
        System.arraycopy(from, 0, to, 0, Math.min(from.length, to.length));
    }

    /** The numbers of the tariffs, and which hour has which. */
    private static final class Tariffs {
        static final int BEGIN = 0;
        static final int DROP = 1;
        static final int WAY = 2;
        static final int TIME = 3;
        static final int NUMBERS = 4;

        private final int[] numbers = {30, 2, 100, 20, 30, 2, 90, 20, 30, 2, 80, 20};
        private final int[] hours = new int[HOURS];

        void copyFrom(Tariffs other) {
            copyRow(other.numbers, numbers);
            copyRow(other.hours, hours);
        }

        int about(int tariff, int what) {
            return at(numbers, tariff * NUMBERS + what);
        }

        void change(int tariff, int what, int value) {
            setAt(numbers, tariff * NUMBERS + what, value);
        }

        int ofHour(int hour) {
            return at(hours, hour);
        }

        int ofSecond(int second) {
            return at(hours, second / HOUR);
        }

        void giveHour(int hour, int tariff) {
            setAt(hours, hour, tariff);
        }

        int hoursOf(int tariff) {
            int having = 0;
            for (int hour = 0; hour < HOURS; hour++) {
                if (ofHour(hour) == tariff) {
                    having++;
                }
            }
            return having;
        }
    }

    /** What one ride has come to. */
    private static final class Ride {
        int beganAt;
        int fare;
        int extraCoins;
        int extras;
        int pulses;
        int driveSeconds;
        int haltSeconds;
        int dropsByWay;
        int dropsByTime;
        int rest;
        /** way * time as they were in the latest second of a drive; 0 ahead of the first, when the rest is 0. */
        int measure;

        void copyFrom(Ride other) {
            beganAt = other.beganAt;
            fare = other.fare;
            extraCoins = other.extraCoins;
            extras = other.extras;
            pulses = other.pulses;
            driveSeconds = other.driveSeconds;
            haltSeconds = other.haltSeconds;
            dropsByWay = other.dropsByWay;
            dropsByTime = other.dropsByTime;
            rest = other.rest;
            measure = other.measure;
        }

        void startAt(int second, int coins) {
            beganAt = second;
            fare = coins;
            extraCoins = 0;
            extras = 0;
            pulses = 0;
            driveSeconds = 0;
            haltSeconds = 0;
            dropsByWay = 0;
            dropsByTime = 0;
            rest = 0;
            measure = 0;
        }
    }

    /** The latest rides that ended, the one that ended last in the row ahead of next. */
    private static final class Log {
        static final int NUMBERS = 5;
        private static final int RIDES = 12;

        private final int[] numbers = new int[RIDES * NUMBERS];
        private int next;
        int size;

        void copyFrom(Log other) {
            copyRow(other.numbers, numbers);
            next = other.next;
            size = other.size;
        }

        void add(Ride ride) {
            int from = next * NUMBERS;
            setAt(numbers, from, ride.fare + ride.extraCoins);
            setAt(numbers, from + 1, ride.pulses);
            setAt(numbers, from + 2, ride.driveSeconds + ride.haltSeconds);
            setAt(numbers, from + 3, ride.dropsByWay + ride.dropsByTime);
            setAt(numbers, from + 4, ride.beganAt);
            next = (next + 1) % RIDES;
            size = Math.min(size + 1, RIDES);
        }

        int about(int ago, int what) {
            int row = (next + RIDES - 1 - ago) % RIDES;
            return at(numbers, row * NUMBERS + what);
        }
    }

    /** All that is saved, restored and undone. */
    private static final class Meter {
        final Tariffs tariffs = new Tariffs();
        final Ride ride = new Ride();
        final Log log = new Log();
        int second;
        int state = FREE;
        int extraPrice = 5;
        int ended;
        int income;

        void copyFrom(Meter other) {
            tariffs.copyFrom(other.tariffs);
            ride.copyFrom(other.ride);
            log.copyFrom(other.log);
            second = other.second;
            state = other.state;
            extraPrice = other.extraPrice;
            ended = other.ended;
            income = other.income;
        }

        int beginRide() {
            if (state != FREE) {
                return NOT_POSSIBLE;
            }
            int tariff = tariffs.ofSecond(second);
            ride.startAt(second, tariffs.about(tariff, Tariffs.BEGIN));
            state = RUNS;
            return tariff;
        }

        int makeDrive(Drive drive, int pulses, int seconds) {
            if (!isDrive(pulses, seconds)) {
                return BAD_VALUE;
            }
            if (state != RUNS) {
                return NOT_POSSIBLE;
            }
            drive.goOnFrom(ride);
            drive.tellsKinds = true;
            drive.run(tariffs, second, pulses, seconds);
            ride.fare = drive.fare;
            ride.rest = drive.rest;
            ride.measure = drive.measure;
            ride.dropsByWay += drive.dropsByWay;
            ride.dropsByTime += drive.dropsByTime;
            ride.pulses += pulses;
            ride.driveSeconds += seconds;
            second = (second + seconds) % DAY;
            return drive.dropsByWay + drive.dropsByTime;
        }

        int letTimePass(int seconds) {
            if (!isIn(seconds, 1, MOST_NUMBER)) {
                return BAD_VALUE;
            }
            if (state == RUNS) {
                return NOT_POSSIBLE;
            }
            if (state == HALTS) {
                ride.haltSeconds += seconds;
            }
            second = (second + seconds) % DAY;
            return second;
        }

        int turnHalt() {
            if (state == FREE) {
                return NOT_POSSIBLE;
            }
            state = state == RUNS ? HALTS : RUNS;
            return state;
        }

        int takeExtra() {
            if (state == FREE) {
                return NOT_POSSIBLE;
            }
            if (ride.extras >= MOST_EXTRAS) {
                return TOO_MANY;
            }
            ride.extras++;
            ride.extraCoins += extraPrice;
            return ride.extras;
        }

        int endRide() {
            if (state == FREE) {
                return NOT_POSSIBLE;
            }
            int cost = ride.fare + ride.extraCoins;
            log.add(ride);
            ended++;
            income = (income + cost) % INCOME_ROUND;
            state = FREE;
            return cost;
        }
    }

    /** One drive, made or only asked about: it is cut at the full hours, so that each cut has one tariff. */
    private static final class Drive {
        int fare;
        int rest;
        int measure;
        int dropsByWay;
        int dropsByTime;
        /** Whether drops by way and by time are told apart; who only asks for a fare saves these steps. */
        boolean tellsKinds;
        private int pulses;
        private int seconds;
        private int drop;
        private int way;
        private int time;

        void startNew(Tariffs tariffs, int second) {
            fare = tariffs.about(tariffs.ofSecond(second), Tariffs.BEGIN);
            rest = 0;
            measure = 0;
            tellsKinds = false;
        }

        void goOnFrom(Ride ride) {
            fare = ride.fare;
            rest = ride.rest;
            measure = ride.measure;
            tellsKinds = false;
        }

        void run(Tariffs tariffs, int second, int pulses, int seconds) {
            this.pulses = pulses;
            this.seconds = seconds;
            dropsByWay = 0;
            dropsByTime = 0;
            int from = 0;
            for (int cut = 0; cut < HOURS && from < seconds; cut++) {
                int now = (second + from) % DAY;
                int to = Math.min(seconds, from + HOUR - now % HOUR);
                takeTariff(tariffs, tariffs.ofSecond(now));
                runCut(from, to);
                from = to;
            }
        }

        private void takeTariff(Tariffs tariffs, int tariff) {
            drop = tariffs.about(tariff, Tariffs.DROP);
            way = tariffs.about(tariff, Tariffs.WAY);
            time = tariffs.about(tariff, Tariffs.TIME);
            int before = measure;
            measure = Math.max(1, way * time);
            if (before > 0) {
                rest = (int) ((long) rest * measure / before);
            }
        }

        /** Each second has few pulses, or one more; the order of these matters only where they differ in kind. */
        private void runCut(int from, int to) {
            int few = behind(1);
            int withMore = behind(to) - behind(from) - few * (to - from);
            if (!tellsKinds || withMore == 0 || isByWay(few) == isByWay(few + 1)) {
                grow((to - from - withMore) * gain(few) + withMore * gain(few + 1), isByWay(few));
                return;
            }
            for (int k = from; k < to; k++) {
                int here = behind(k + 1) - behind(k);
                grow(gain(here), isByWay(here));
            }
        }

        /** How many pulses there have been behind the first k seconds. */
        private int behind(int k) {
            return seconds > 0 ? pulses * k / seconds : 0;
        }

        private boolean isByWay(int pulsesOfSecond) {
            return pulsesOfSecond * time >= way;
        }

        private int gain(int pulsesOfSecond) {
            return Math.max(pulsesOfSecond * time, way);
        }

        private void grow(int gained, boolean byWay) {
            rest += gained;
            if (measure <= 0) {
                return;
            }
            int drops = rest / measure;
            rest %= measure;
            fare = Math.min(MOST_FARE, fare + drops * drop);
            if (byWay) {
                dropsByWay += drops;
            } else {
                dropsByTime += drops;
            }
        }
    }

    /** The states ahead of the latest changes, in a ring; one row more than are kept is the draft. */
    private static final class History {
        private static final int KEPT = 6;

        private final Meter[] rows = new Meter[KEPT + 1];
        private int next;
        int size;

        History() {
            for (int i = 0; i < rows.length; i++) {
                rows[i] = new Meter();
            }
        }

        /** Writes the state down ahead of a change; it counts only if settle() is told of no error. */
        void draft(Meter meter) {
            Meter row = rowAt(next);
            if (row != null) {
                row.copyFrom(meter);
            }
        }

        int settle(int answer) {
            if (answer >= 0) {
                next = (next + 1) % (KEPT + 1);
                size = Math.min(size + 1, KEPT);
            }
            return answer;
        }

        void takeBack(Meter meter) {
            next = (next + KEPT) % (KEPT + 1);
            size--;
            Meter row = rowAt(next);
            if (row != null) {
                meter.copyFrom(row);
            }
        }

        private Meter rowAt(int index) {
            return index >= 0 && index < rows.length ? rows[index] : null;
        }
    }

    /** The states that were saved. */
    private static final class Slots {
        static final int SLOTS = 2;

        private final Meter first = new Meter();
        private final Meter second = new Meter();
        private boolean firstIsSaved;
        private boolean secondIsSaved;

        void store(int slot, Meter meter) {
            if (slot == 0) {
                first.copyFrom(meter);
                firstIsSaved = true;
            } else {
                second.copyFrom(meter);
                secondIsSaved = true;
            }
        }

        int fetch(int slot, Meter meter) {
            if (slot == 0 ? !firstIsSaved : !secondIsSaved) {
                return NOT_POSSIBLE;
            }
            meter.copyFrom(slot == 0 ? first : second);
            return meter.ended;
        }
    }

    /** The text that orders are read from. */
    private static final class Pad {
        static final int MOST = 80;
        private static final int SIGNS = 8;

        private final char[] signs = new char[MOST];
        int length;

        /** How many characters a number has; 0 if it is not a row of characters. */
        static int countOf(long characters) {
            int found = 0;
            for (int i = 0; i < SIGNS; i++) {
                int code = codeAt(characters, i);
                if (code == 0) {
                    return characters >>> (8 * i) == 0 ? found : 0;
                }
                if (!isIn(code, 33, 126)) {
                    return 0;
                }
                found++;
            }
            return found;
        }

        private static int codeAt(long characters, int place) {
            return (int) (characters >>> (8 * place)) & 255;
        }

        void append(long characters, int added) {
            for (int i = added - 1; i >= 0; i--) {
                if (length >= 0 && length < signs.length) {
                    signs[length] = (char) codeAt(characters, i);
                    length++;
                }
            }
        }

        char signAt(int index) {
            return index >= 0 && index < signs.length ? signs[index] : (char) 0;
        }
    }

    /** Reads orders character by character. */
    private static final class Orders {
        private static final int AT_ORDER = 0;
        private static final int IN_FIRST = 1;
        private static final int IN_LAST = 2;
        private static final int BEHIND = 3;
        private static final int NO_DIGIT = -1;

        char letter;
        int first;
        int number;
        private int place;

        void start() {
            place = AT_ORDER;
            number = NO_DIGIT;
        }

        int faultOf(Pad pad) {
            start();
            for (int i = 0; i < pad.length; i++) {
                if (!take(pad.signAt(i))) {
                    return i;
                }
            }
            return mayEnd() ? NONE : pad.length;
        }

        /** Reads the next character; false if it cannot stand here. */
        boolean take(char sign) {
            if (place == AT_ORDER) {
                return takeLetter(sign);
            }
            if (sign >= '0' && sign <= '9') {
                return takeDigit(sign - '0');
            }
            if (sign == '/' && place == IN_FIRST && number != NO_DIGIT) {
                first = number;
                number = NO_DIGIT;
                place = IN_LAST;
                return true;
            }
            if (sign == ';' && mayEnd()) {
                place = AT_ORDER;
                return true;
            }
            return false;
        }

        private boolean mayEnd() {
            return place == BEHIND || place == IN_LAST && number != NO_DIGIT;
        }

        private boolean takeLetter(char sign) {
            if ("hdwsxe".indexOf(sign) < 0) {
                return false;
            }
            letter = sign;
            number = NO_DIGIT;
            place = sign == 'd' ? IN_FIRST : sign == 'w' ? IN_LAST : BEHIND;
            return true;
        }

        private boolean takeDigit(int digit) {
            if (place == BEHIND || number == 0) {
                return false;
            }
            int longer = number == NO_DIGIT ? digit : number * 10 + digit;
            if (longer > MOST_NUMBER) {
                return false;
            }
            number = longer;
            return true;
        }
    }
}
