import java.util.function.Supplier;

/** What the tests share: a count of the checks, and short words for what they write and look at. */
abstract class Checks {
    static final int NO_SUCH = -1, BAD_VALUE = -2, BAD_TEXT = -3, TOO_MANY = -4, NOT_POSSIBLE = -5, NONE = -6;
    static final int LEAST = Integer.MIN_VALUE, MOST = Integer.MAX_VALUE;

    private static int passed = 0;
    private static int failed = 0;
    private static String part = "";

    /** Tells how many checks passed and failed; the program ends with 1 if one failed. */
    static void close() {
        System.out.println(passed + " passed, " + failed + " failed");
        if (failed > 0) {
            System.exit(1);
        }
    }

    static void due(String call, long got, long want) {
        if (got == want) {
            passed++;
        } else {
            failed++;
            System.out.println(part + ": " + call + " answered " + got + ", due is " + want);
        }
    }

    /** Names what is tested from here on. */
    static void part(String name) {
        part = name;
    }

    static FareDrops begin(String name) {
        part = name;
        return new FareDrops();
    }

    static long packed(String text) {
        long characters = 0;
        for (int i = 0; i < text.length(); i++) {
            characters = characters << 8 | text.charAt(i);
        }
        return characters;
    }

    static void write(FareDrops x, String text) {
        for (int i = 0; i < text.length(); i += 8) {
            x.put(packed(text.substring(i, Math.min(i + 8, text.length()))));
        }
    }

    static void rides(FareDrops x, int... due) {
        for (int what = 0; what < due.length; what++) {
            due("ride(" + what + ")", x.ride(what), due[what]);
        }
    }

    static void counts(FareDrops x, int... due) {
        for (int what = 0; what < due.length; what++) {
            due("count(" + what + ")", x.count(what), due[what]);
        }
    }

    static void logs(FareDrops x, int ago, int... due) {
        for (int what = 0; what < due.length; what++) {
            due("log(" + ago + ", " + what + ")", x.log(ago, what), due[what]);
        }
    }

    static void tariffs(FareDrops x, int tariff, int... due) {
        for (int what = 0; what < due.length; what++) {
            due("ofTariff(" + tariff + ", " + what + ")", x.ofTariff(tariff, what), due[what]);
        }
    }

    /** Lets the free or halting meter wait for more seconds than one call takes. */
    static void waitFor(FareDrops x, int seconds) {
        for (int left = seconds; left > 0; left -= 9999) {
            x.rest(Math.min(left, 9999));
        }
    }

    /** A new meter that waited to this second of the day. */
    static FareDrops at(int second) {
        FareDrops x = new FareDrops();
        waitFor(x, second);
        return x;
    }

    /** A call on a meter, for what is tried on more than one. */
    interface Call {
        long on(FareDrops x);
    }

    /** A call on a meter with a value of its own. */
    interface CallWith {
        long on(FareDrops x, int value);
    }

    /** Tries the last values that are allowed and the first that are not, on each side, each on a meter of its own. */
    static void range(String call, int least, int most, int refusal, Supplier<FareDrops> meter, CallWith tried) {
        for (int value : new int[] {LEAST, -65536, -256, least - 2, least - 1, most + 1, most + 2, 65536, MOST}) {
            due(call + " with " + value, tried.on(meter.get(), value), refusal);
        }
        for (int value : new int[] {least, Math.min(least + 1, most), Math.max(most - 1, least), most}) {
            long answer = tried.on(meter.get(), value);
            due(call + " with " + value + " answered " + answer + "; refused", answer < 0 ? 1 : 0, 0);
        }
    }

    /** Everything that can be seen, except the pad and the history. */
    static String seen(FareDrops x) {
        StringBuilder text = new StringBuilder();
        for (int what = 0; what < 7; what++) {
            text.append(x.count(what)).append(' ');
        }
        for (int what = 0; what < 9; what++) {
            text.append(x.ride(what)).append(' ');
        }
        for (int ago = 0; ago < 12; ago++) {
            for (int what = 0; what < 5; what++) {
                text.append(x.log(ago, what)).append(' ');
            }
        }
        for (int tariff = 0; tariff < 3; tariff++) {
            for (int what = 0; what < 5; what++) {
                text.append(x.ofTariff(tariff, what)).append(' ');
            }
        }
        return text.toString();
    }

    static void same(String call, String got, String want) {
        due(call + (got.equals(want) ? "" : ", seen " + got + "instead of " + want), got.equals(want) ? 1 : 0, 1);
    }
}
