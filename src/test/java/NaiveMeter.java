import java.util.ArrayList;
import java.util.Arrays;
import java.util.List;

/** The document's words said again second by second, without any thought of speed; the tests compare with it. */
final class NaiveMeter {
    private static final int NO_SUCH = -1, BAD_VALUE = -2, BAD_TEXT = -3, TOO_MANY = -4, NOT_POSSIBLE = -5, NONE = -6;

    /** Everything except the pad, the history and the slots. */
    private static final class State {
        int[][] tariffs = {{30, 2, 100, 20}, {30, 2, 90, 20}, {30, 2, 80, 20}};
        int[] hours = new int[24];
        long second, mode, price = 5, ended, income;
        /** fare, coins of extras, pulses, seconds of driving, of halting, by way, by time, extras, rest, begin, way * time. */
        long[] ride = new long[11];
        List<long[]> log = new ArrayList<>();

        State copy() {
            State other = new State();
            for (int i = 0; i < 3; i++) {
                other.tariffs[i] = tariffs[i].clone();
            }
            other.hours = hours.clone();
            other.second = second;
            other.mode = mode;
            other.price = price;
            other.ended = ended;
            other.income = income;
            other.ride = ride.clone();
            for (long[] line : log) {
                other.log.add(line.clone());
            }
            return other;
        }
    }

    private State now = new State();
    private final List<State> history = new ArrayList<>();
    private final State[] slots = new State[2];
    private String pad = "";

    private int changed(State before, long answer) {
        if (answer >= 0) {
            history.add(before);
            if (history.size() > 6) {
                history.remove(0);
            }
        }
        return (int) answer;
    }

    private static boolean out(long value, long least, long most) {
        return value < least || value > most;
    }

    int tariff(int tariff, int begin, int drop, int way, int time) {
        if (out(tariff, 0, 2)) {
            return NO_SUCH;
        }
        if (out(begin, 0, 999) || out(drop, 1, 99) || out(way, 1, 999) || out(time, 1, 999)) {
            return BAD_VALUE;
        }
        State before = now.copy();
        now.tariffs[tariff] = new int[] {begin, drop, way, time};
        return changed(before, before.tariffs[tariff][1]);
    }

    int hour(int hour, int tariff) {
        if (out(hour, 0, 23) || out(tariff, 0, 2)) {
            return NO_SUCH;
        }
        State before = now.copy();
        now.hours[hour] = tariff;
        return changed(before, before.hours[hour]);
    }

    int priceOfExtra(int coins) {
        if (out(coins, 0, 99)) {
            return BAD_VALUE;
        }
        State before = now.copy();
        now.price = coins;
        return changed(before, before.price);
    }

    int hire() {
        State before = now.copy();
        return changed(before, hire(now));
    }

    private static long hire(State s) {
        if (s.mode != 0) {
            return NOT_POSSIBLE;
        }
        int tariff = s.hours[(int) s.second / 3600];
        s.mode = 1;
        s.ride = new long[11];
        s.ride[0] = s.tariffs[tariff][0];
        s.ride[9] = s.second;
        s.ride[10] = (long) s.tariffs[tariff][2] * s.tariffs[tariff][3];
        return tariff;
    }

    int drive(int pulses, int seconds) {
        State before = now.copy();
        return changed(before, drive(now, pulses, seconds));
    }

    private static long drive(State s, int pulses, int seconds) {
        if (out(pulses, 0, 9999) || out(seconds, 1, 9999)) {
            return BAD_VALUE;
        }
        if (s.mode != 1) {
            return NOT_POSSIBLE;
        }
        long drops = 0;
        for (int k = 0; k < seconds; k++) {
            long here = (long) pulses * (k + 1) / seconds - (long) pulses * k / seconds;
            int[] tariff = s.tariffs[s.hours[(int) s.second / 3600]];
            long size = (long) tariff[2] * tariff[3];
            s.ride[8] = s.ride[8] * size / s.ride[10];
            s.ride[10] = size;
            boolean byWay = here * tariff[3] >= tariff[2];
            s.ride[8] += byWay ? here * tariff[3] : tariff[2];
            while (s.ride[8] >= size) {
                s.ride[8] -= size;
                s.ride[0] = Math.min(9999999, s.ride[0] + tariff[1]);
                s.ride[byWay ? 5 : 6]++;
                drops++;
            }
            s.second = (s.second + 1) % 86400;
        }
        s.ride[2] += pulses;
        s.ride[3] += seconds;
        return drops;
    }

    int rest(int seconds) {
        State before = now.copy();
        return changed(before, rest(now, seconds));
    }

    private static long rest(State s, int seconds) {
        if (out(seconds, 1, 9999)) {
            return BAD_VALUE;
        }
        if (s.mode == 1) {
            return NOT_POSSIBLE;
        }
        s.second = (s.second + seconds) % 86400;
        s.ride[4] += s.mode == 2 ? seconds : 0;
        return s.second;
    }

    int halt() {
        State before = now.copy();
        return changed(before, halt(now));
    }

    private static long halt(State s) {
        if (s.mode == 0) {
            return NOT_POSSIBLE;
        }
        s.mode = 3 - s.mode;
        return s.mode;
    }

    int extra() {
        State before = now.copy();
        return changed(before, extra(now));
    }

    private static long extra(State s) {
        if (s.mode == 0) {
            return NOT_POSSIBLE;
        }
        if (s.ride[7] == 9) {
            return TOO_MANY;
        }
        s.ride[1] += s.price;
        return ++s.ride[7];
    }

    int end() {
        State before = now.copy();
        return changed(before, end(now));
    }

    private static long end(State s) {
        if (s.mode == 0) {
            return NOT_POSSIBLE;
        }
        long[] r = s.ride;
        long fare = r[0] + r[1];
        s.mode = 0;
        s.ended++;
        s.income = (s.income + fare) % 1000000;
        s.log.add(0, new long[] {fare, r[2], r[3] + r[4], r[5] + r[6], r[9]});
        if (s.log.size() > 12) {
            s.log.remove(12);
        }
        return fare;
    }

    int ofTariff(int tariff, int what) {
        if (out(tariff, 0, 2)) {
            return NO_SUCH;
        }
        if (out(what, 0, 4)) {
            return BAD_VALUE;
        }
        return what < 4 ? now.tariffs[tariff][what] : (int) Arrays.stream(now.hours).filter(t -> t == tariff).count();
    }

    int ride(int what) {
        return out(what, 0, 8) ? BAD_VALUE : (int) now.ride[what];
    }

    int log(int ago, int what) {
        if (out(ago, 0, now.log.size() - 1)) {
            return NO_SUCH;
        }
        return out(what, 0, 4) ? BAD_VALUE : (int) now.log.get(ago)[what];
    }

    int count(int what) {
        if (out(what, 0, 8)) {
            return BAD_VALUE;
        }
        long[] numbers = {now.second, now.mode, now.hours[(int) now.second / 3600], now.price, now.ended, now.income,
            now.log.size(), pad.length(), history.size()};
        return (int) numbers[what];
    }

    int would(int pulses, int seconds) {
        State s = now.copy();
        long answer = drive(s, pulses, seconds);
        return (int) (answer < 0 ? answer : s.ride[0] - now.ride[0]);
    }

    private int priceAt(long second, int pulses, int seconds) {
        State s = now.copy();
        s.mode = 0;
        s.second = second;
        hire(s);
        long answer = drive(s, pulses, seconds);
        return (int) (answer < 0 ? answer : s.ride[0]);
    }

    int price(int pulses, int seconds) {
        return priceAt(now.second, pulses, seconds);
    }

    int farthest(int seconds, int coins) {
        if (out(seconds, 1, 999) || coins < 0) {
            return BAD_VALUE;
        }
        int found = NONE;
        for (int pulses = 0; pulses <= 999; pulses++) {
            if (priceAt(now.second, pulses, seconds) <= coins) {
                found = pulses;
            } else if (pulses == 0) {
                return NONE;
            }
        }
        return found;
    }

    int cheapest(int pulses, int seconds, int what) {
        if (out(pulses, 0, 9999) || out(seconds, 1, 9999) || out(what, 0, 1)) {
            return BAD_VALUE;
        }
        int best = 0;
        for (int hour = 23; hour >= 0; hour--) {
            if (priceAt(hour * 3600L, pulses, seconds) <= priceAt(best * 3600L, pulses, seconds)) {
                best = hour;
            }
        }
        return what == 0 ? best : priceAt(best * 3600L, pulses, seconds);
    }

    int put(long characters) {
        String added = "";
        long left = characters;
        while ((left & 255) != 0) {
            added = (char) (left & 255) + added;
            left >>>= 8;
        }
        if (left != 0 || added.isEmpty() || added.chars().anyMatch(c -> c < 33 || c > 126)) {
            return BAD_VALUE;
        }
        if ((pad + added).length() > 80) {
            return TOO_MANY;
        }
        pad += added;
        return pad.length();
    }

    int wipe() {
        int length = pad.length();
        pad = "";
        return length;
    }

    /** Whether some text that begins so has no fault: tried with a few endings. */
    private static boolean canStand(String beginning) {
        for (String ending : new String[] {"", "h", "0", "/0", "0/0"}) {
            if (isText(beginning + ending)) {
                return true;
            }
        }
        return false;
    }

    private static boolean isText(String text) {
        String number = "(0|[1-9][0-9]{0,3})";
        String order = "(h|d" + number + "/" + number + "|w" + number + "|s|x|e)";
        return text.matches(order + "(;" + order + ")*");
    }

    int fault() {
        for (int i = 0; i < pad.length(); i++) {
            if (!canStand(pad.substring(0, i + 1))) {
                return i;
            }
        }
        return isText(pad) ? NONE : pad.length();
    }

    int carryOut() {
        if (!isText(pad)) {
            return BAD_TEXT;
        }
        State before = now.copy();
        int carried = 0;
        for (String order : pad.split(";")) {
            if (carry(order) < 0) {
                break;
            }
            carried++;
        }
        pad = "";
        return changed(before, carried);
    }

    private long carry(String order) {
        String[] numbers = order.substring(1).split("/");
        switch (order.charAt(0)) {
            case 'h': return hire(now);
            case 'd': return drive(now, Integer.parseInt(numbers[0]), Integer.parseInt(numbers[1]));
            case 'w': return rest(now, Integer.parseInt(numbers[0]));
            case 's': return halt(now);
            case 'x': return extra(now);
            default: return end(now);
        }
    }

    int undo() {
        if (history.isEmpty()) {
            return NOT_POSSIBLE;
        }
        now = history.remove(history.size() - 1);
        return history.size();
    }

    int save(int slot) {
        if (out(slot, 0, 1)) {
            return BAD_VALUE;
        }
        slots[slot] = now.copy();
        return (int) now.ended;
    }

    int restore(int slot) {
        if (out(slot, 0, 1)) {
            return BAD_VALUE;
        }
        if (slots[slot] == null) {
            return NOT_POSSIBLE;
        }
        State before = now;
        now = slots[slot].copy();
        return changed(before, now.ended);
    }
}
