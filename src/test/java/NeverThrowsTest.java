import java.util.ArrayList;
import java.util.List;
import java.util.Random;

/** Any call with any arguments in any state: none throws, and each answer is one that its promise names. */
public final class NeverThrowsTest extends Checks {
    private static final int RUNS = 300;
    /** Behind the 512th call what is answered is free, but no call may throw there either. */
    private static final int CALLS = 3000;
    private static final int PROMISED = 512;
    private static final int[] EDGES = {LEAST, LEAST + 1, -10000, -7, -6, -2, -1, 0, 1, 2, 3, 4, 5, 8, 9, 11, 12, 23, 24, 30,
        80, 81, 99, 100, 998, 999, 1000, 3599, 3600, 3601, 9998, 9999, 10000, 65536, 86399, 86400, 9999999, MOST - 1, MOST};
    private static final String SIGNS = "hdwsxe;/0123456789hdwsxe;;;;19";
    private static final String[] ORDERS = {"h", "s", "x", "e", "w1", "w9999", "w0", "d70/8", "d9/999", "d999/9", "d0/0"};

    private static final List<Row> rows = new ArrayList<>();
    private static Random random;

    /** A call, and the answers that it can have: from least to most, and its error codes. */
    private record Row(String name, int least, int most, List<Integer> others, Call call) {
    }

    public static void main(String[] args) {
        changes();
        questions();
        textsAndStates();
        int thrown = 0;
        for (int run = 0; run < RUNS && thrown == 0; run++) {
            thrown += any(run);
        }
        part("any call");
        due("thrown", thrown, 0);
        close();
    }

    private static void add(String name, int least, int most, List<Integer> others, Call call) {
        rows.add(new Row(name, least, most, others, call));
    }

    private static void changes() {
        add("tariff", 1, 99, List.of(NO_SUCH, BAD_VALUE), x -> x.tariff(some(2), some(999), some(99), some(999), some(999)));
        add("hour", 0, 2, List.of(NO_SUCH), x -> x.hour(some(23), some(2)));
        add("priceOfExtra", 0, 99, List.of(BAD_VALUE), x -> x.priceOfExtra(some(99)));
        add("hire", 0, 2, List.of(NOT_POSSIBLE), x -> x.hire());
        add("drive", 0, MOST, List.of(BAD_VALUE, NOT_POSSIBLE), x -> x.drive(some(9999), some(9999)));
        add("rest", 0, 86399, List.of(BAD_VALUE, NOT_POSSIBLE), x -> x.rest(some(9999)));
        add("halt", 1, 2, List.of(NOT_POSSIBLE), x -> x.halt());
        add("extra", 1, 9, List.of(NOT_POSSIBLE, TOO_MANY), x -> x.extra());
        add("end", 0, 10000890, List.of(NOT_POSSIBLE), x -> x.end());
    }

    private static void questions() {
        add("ofTariff", 0, 999, List.of(NO_SUCH, BAD_VALUE), x -> x.ofTariff(some(2), some(4)));
        add("ride", 0, MOST, List.of(BAD_VALUE), x -> x.ride(some(8)));
        add("log", 0, MOST, List.of(NO_SUCH, BAD_VALUE), x -> x.log(some(11), some(4)));
        add("count", 0, 999999, List.of(BAD_VALUE), x -> x.count(some(8)));
        add("would", 0, 9999999, List.of(BAD_VALUE, NOT_POSSIBLE), x -> x.would(some(9999), some(9999)));
        add("price", 0, 9999999, List.of(BAD_VALUE), x -> x.price(some(9999), some(9999)));
        add("farthest", 0, 999, List.of(BAD_VALUE, NONE), x -> x.farthest(some(999), some(9999)));
        add("cheapest", 0, 9999999, List.of(BAD_VALUE), x -> x.cheapest(some(9999), some(9999), some(1)));
    }

    private static void textsAndStates() {
        add("put", 1, 80, List.of(BAD_VALUE, TOO_MANY), x -> x.put(someSigns()));
        add("put of any bits", 1, 80, List.of(BAD_VALUE, TOO_MANY), x -> x.put(random.nextLong() >> random.nextInt(64)));
        add("wipe", 0, 80, List.of(), x -> x.wipe());
        add("fault", 0, 80, List.of(NONE), x -> x.fault());
        add("carryOut", 0, 40, List.of(BAD_TEXT), x -> x.carryOut());
        add("undo", 0, 5, List.of(NOT_POSSIBLE), x -> x.undo());
        add("save", 0, 512, List.of(BAD_VALUE), x -> x.save(some(1)));
        add("restore", 0, 512, List.of(BAD_VALUE, NOT_POSSIBLE), x -> x.restore(some(1)));
    }

    /** Most often a value up to the one told, else an edge, or any value at all. */
    private static int some(int most) {
        int kind = random.nextInt(20);
        if (kind == 0) {
            return random.nextInt();
        }
        return kind < 4 ? EDGES[random.nextInt(EDGES.length)] : random.nextInt(most + 1);
    }

    /** Most often a whole order, so that now and then the pad has no fault. */
    private static long someSigns() {
        int kind = random.nextInt(8);
        if (kind > 0) {
            return packed((kind < 6 ? ";" : "") + ORDERS[random.nextInt(ORDERS.length)]);
        }
        long characters = 0;
        for (int i = random.nextInt(4); i >= 0; i--) {
            characters = characters << 8 | SIGNS.charAt(random.nextInt(SIGNS.length()));
        }
        return characters;
    }

    /** Each run leaves some calls out: without wipe() the pad is full soon, without end() a ride is long. */
    private static List<Row> someRows() {
        List<Row> some = new ArrayList<>();
        for (Row row : rows) {
            if (random.nextInt(3) > 0) {
                some.add(row);
            }
        }
        return some.isEmpty() ? rows : some;
    }

    /** Tells how many calls threw: the first one ends the run. */
    private static int any(int run) {
        random = new Random(run);
        List<Row> some = someRows();
        FareDrops x = new FareDrops();
        for (int i = 1; i <= CALLS; i++) {
            Row row = some.get(random.nextInt(some.size()));
            part("run " + run + ", call " + i);
            try {
                int answer = (int) row.call.on(x);
                if (i <= PROMISED) {
                    boolean named = answer >= row.least && answer <= row.most || row.others.contains(answer);
                    due(row.name + " answered " + answer + "; this is named", named ? 1 : 0, 1);
                }
            } catch (RuntimeException | StackOverflowError thrown) {
                System.out.println("run " + run + ", call " + i + ": " + row.name + " threw " + thrown);
                return 1;
            }
        }
        return 0;
    }
}
