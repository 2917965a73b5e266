/** Long runs of many calls, each answer compared with the one of NaiveMeter. The runs are the same each time. */
public final class AgainstNaiveTest {
    private static final int RUNS = 1500;
    private static final int CALLS = 512;

    private static long seed;
    private static FareDrops real;
    private static NaiveMeter naive;
    private static String call;
    private static int answer;
    private static int due;

    public static void main(String[] args) {
        long compared = 0;
        int failed = 0;
        for (int run = 1; run <= RUNS && failed < 10; run++) {
            seed = run * 7919L;
            real = new FareDrops();
            naive = new NaiveMeter();
            StringBuilder calls = new StringBuilder();
            for (int i = 0; i < CALLS; i++) {
                step(run);
                compared++;
                calls.append(call).append(" = ").append(answer).append('\n');
                if (answer != due) {
                    failed++;
                    System.out.println("run " + run + ": " + call + " answered " + answer + ", due is " + due);
                    if (failed == 1) {
                        System.out.println(calls);
                    }
                    break;
                }
            }
        }
        System.out.println(compared - failed + " passed, " + failed + " failed");
        if (failed > 0) {
            System.exit(1);
        }
    }

    private static int pick(int least, int most) {
        seed = seed * 6364136223846793005L + 1442695040888963407L;
        return least + (int) ((seed >>> 33) % ((long) most - least + 1));
    }

    /** Now and then a value at the edges or beyond them, else one of the range. */
    private static int some(int least, int most) {
        switch (pick(0, 59)) {
            case 0: return least - 1;
            case 1: return most + 1;
            case 2: case 3: return least;
            case 4: case 5: return most;
            case 6: return pick(0, 1) == 0 ? Integer.MIN_VALUE : Integer.MAX_VALUE;
            default: return pick(least, pick(0, 1) == 0 ? most : Math.min(most, least + 40));
        }
    }

    private static void told(String name, int real, int naive, long... arguments) {
        StringBuilder text = new StringBuilder(name).append('(');
        for (int i = 0; i < arguments.length; i++) {
            text.append(i > 0 ? ", " : "").append(arguments[i]);
        }
        call = text.append(')').toString();
        answer = real;
        due = naive;
    }

    private static void step(int run) {
        int kind = pick(0, 99);
        if (kind < 38) {
            change(kind);
        } else if (kind < 62) {
            look();
        } else if (kind < 78) {
            ask(run);
        } else if (kind < 90) {
            text();
        } else {
            back();
        }
    }

    private static void change(int kind) {
        if (kind < 4) {
            int small = pick(0, 2);
            int a = some(0, 2), b = some(0, 999), c = some(1, 99);
            int d = some(1, small == 0 ? 5 : 999), e = some(1, small <= 1 ? 30 : 999);
            told("tariff", real.tariff(a, b, c, d, e), naive.tariff(a, b, c, d, e), a, b, c, d, e);
        } else if (kind < 9) {
            int a = some(0, 23), b = some(0, 2);
            told("hour", real.hour(a, b), naive.hour(a, b), a, b);
        } else if (kind < 10) {
            int a = some(0, 99);
            told("priceOfExtra", real.priceOfExtra(a), naive.priceOfExtra(a), a);
        } else if (kind < 15) {
            told("hire", real.hire(), naive.hire());
        } else if (kind < 25) {
            int a = some(0, pick(0, 1) == 0 ? 99 : 9999), b = some(1, pick(0, 1) == 0 ? 30 : 9999);
            told("drive", real.drive(a, b), naive.drive(a, b), a, b);
        } else if (kind < 29) {
            int a = pick(0, 1) == 0 ? some(1, 9999) : Math.max(1, 3600 - naive.count(0) % 3600 - pick(0, 20));
            told("rest", real.rest(a), naive.rest(a), a);
        } else if (kind < 33) {
            told("halt", real.halt(), naive.halt());
        } else if (kind < 36) {
            told("extra", real.extra(), naive.extra());
        } else {
            told("end", real.end(), naive.end());
        }
    }

    private static void look() {
        int kind = pick(0, 9);
        if (kind < 4) {
            int a = some(0, 8);
            told("ride", real.ride(a), naive.ride(a), a);
        } else if (kind < 7) {
            int a = some(0, 8);
            told("count", real.count(a), naive.count(a), a);
        } else if (kind < 9) {
            int a = pick(0, 1) == 0 ? some(0, 11) : some(0, 1), b = some(0, 4);
            told("log", real.log(a, b), naive.log(a, b), a, b);
        } else {
            int a = some(0, 2), b = some(0, 4);
            told("ofTariff", real.ofTariff(a, b), naive.ofTariff(a, b), a, b);
        }
    }

    /** The naive farthest() and cheapest() are slow, so long drives are asked about in few runs only. */
    private static void ask(int run) {
        int most = run % 100 == 0 ? 9999 : 60;
        int kind = pick(0, 15);
        if (kind < 7) {
            int a = some(0, pick(0, 1) == 0 ? 60 : 9999), b = some(1, pick(0, 1) == 0 ? 60 : 9999);
            told("would", real.would(a, b), naive.would(a, b), a, b);
        } else if (kind < 13) {
            int a = some(0, pick(0, 1) == 0 ? 60 : 9999), b = some(1, pick(0, 1) == 0 ? 60 : 9999);
            told("price", real.price(a, b), naive.price(a, b), a, b);
        } else if (kind < 14) {
            int a = some(1, Math.min(999, most)), b = Math.max(pick(0, 9) - 1, naive.price(some(0, 999), a) + pick(-2, 2));
            told("farthest", real.farthest(a, b), naive.farthest(a, b), a, b);
        } else {
            int a = some(0, 9999), b = some(1, most), c = some(0, 1);
            told("cheapest", real.cheapest(a, b, c), naive.cheapest(a, b, c), a, b, c);
        }
    }

    private static String order() {
        int pulses = Math.abs(some(0, pick(0, 1) == 0 ? 99 : 9999) % 100000);
        int seconds = Math.abs(some(1, pick(0, 1) == 0 ? 99 : 9999) % 100000);
        switch (pick(0, 7)) {
            case 0: return "h";
            case 1: return "s";
            case 2: return "x";
            case 3: return "e";
            case 4: return "w" + seconds;
            default: return "d" + pulses + "/" + seconds;
        }
    }

    private static long packed(String characters) {
        long number = 0;
        for (int i = 0; i < characters.length(); i++) {
            number = number << 8 | characters.charAt(i);
        }
        return number;
    }

    private static void text() {
        int kind = pick(0, 19);
        if (kind < 11) {
            String order = order();
            boolean isRow = pick(0, 7) > 0 && naive.fault() == FareDrops.NONE;
            String characters = isRow ? ";" + order : order;
            long a = packed(characters.substring(0, Math.min(8, characters.length())));
            told("put", real.put(a), naive.put(a), a);
        } else if (kind < 12) {
            long a = (long) pick(0, Integer.MAX_VALUE - 1) << pick(0, 32) ^ packed(order());
            told("put", real.put(a), naive.put(a), a);
        } else if (kind < 13) {
            told("wipe", real.wipe(), naive.wipe());
        } else if (kind < 16) {
            told("fault", real.fault(), naive.fault());
        } else {
            if (pick(0, 1) == 0 && naive.fault() >= 0) {
                told("wipe", real.wipe(), naive.wipe());
                return;
            }
            told("carryOut", real.carryOut(), naive.carryOut());
        }
    }

    private static void back() {
        int kind = pick(0, 9);
        if (kind < 5) {
            told("undo", real.undo(), naive.undo());
        } else {
            int a = some(0, 1);
            if (kind < 7) {
                told("save", real.save(a), naive.save(a), a);
            } else {
                told("restore", real.restore(a), naive.restore(a), a);
            }
        }
    }
}
