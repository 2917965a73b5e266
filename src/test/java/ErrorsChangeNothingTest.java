import java.util.ArrayList;
import java.util.List;
import java.util.function.Supplier;

/** "A call that returns an error changes nothing", and no question changes anything: each call, in several states. */
public final class ErrorsChangeNothingTest extends Checks {
    private static final List<String> names = new ArrayList<>();
    private static final List<Call> calls = new ArrayList<>();

    public static void main(String[] args) {
        errorsOfChanges();
        errorsOfTheRest();
        questions();
        String before = "";
        before = eachCall("a new meter", FareDrops::new, before);
        before = eachCall("a free meter", ErrorsChangeNothingTest::free, before);
        before = eachCall("a running meter", ErrorsChangeNothingTest::running, before);
        before = eachCall("a halting meter", ErrorsChangeNothingTest::halting, before);
        errorsAreReached();
        close();
    }

    private static void add(String name, Call call) {
        names.add(name);
        calls.add(call);
    }

    private static void errorsOfChanges() {
        for (int tariff : new int[] {LEAST, -1, 3, MOST}) {
            add("tariff(" + tariff + ", ..)", x -> x.tariff(tariff, 7, 7, 7, 7));
            add("hour(0, " + tariff + ")", x -> x.hour(0, tariff));
        }
        for (int hour : new int[] {-1, 24}) {
            add("hour(" + hour + ", 1)", x -> x.hour(hour, 1));
        }
        for (int tariff = 0; tariff < 3; tariff++) {
            int of = tariff;
            add("tariff, begin", x -> x.tariff(of, -1, 7, 7, 7));
            add("tariff, begin", x -> x.tariff(of, 1000, 7, 7, 7));
            add("tariff, drop", x -> x.tariff(of, 7, 0, 7, 7));
            add("tariff, drop", x -> x.tariff(of, 7, 100, 7, 7));
            add("tariff, way", x -> x.tariff(of, 7, 7, 0, 7));
            add("tariff, way", x -> x.tariff(of, 7, 7, 1000, 7));
            add("tariff, time", x -> x.tariff(of, 7, 7, 7, 0));
            add("tariff, time", x -> x.tariff(of, 7, 7, 7, 1000));
        }
        add("priceOfExtra(-1)", x -> x.priceOfExtra(-1));
        add("priceOfExtra(100)", x -> x.priceOfExtra(100));
        add("hire()", x -> x.hire());
        add("drive(1, 1)", x -> x.drive(1, 1));
        add("drive(-1, 1)", x -> x.drive(-1, 1));
        add("drive(10000, 1)", x -> x.drive(10000, 1));
        add("drive(50, 0)", x -> x.drive(50, 0));
        add("drive(50, 10000)", x -> x.drive(50, 10000));
        add("rest(1)", x -> x.rest(1));
        add("rest(0)", x -> x.rest(0));
        add("rest(10000)", x -> x.rest(10000));
        add("rest(least)", x -> x.rest(LEAST));
        add("halt()", x -> x.halt());
        add("extra()", x -> x.extra());
        add("end()", x -> x.end());
    }

    private static void errorsOfTheRest() {
        add("put(0)", x -> x.put(0));
        add("put(' ')", x -> x.put(' '));
        add("put of eight, the first is 127", x -> x.put(packed("\u007fhhhhhhh")));
        add("put of eight, the last is 32", x -> x.put(packed("hhhhhhh ")));
        add("put with a bit above", x -> x.put('h' + (1L << 16)));
        add("put of eight", x -> x.put(packed(";h;h;h;h")));
        add("carryOut()", x -> x.carryOut());
        add("undo()", x -> x.undo());
        add("save(-1)", x -> x.save(-1));
        add("save(2)", x -> x.save(2));
        add("restore(-1)", x -> x.restore(-1));
        add("restore(2)", x -> x.restore(2));
        add("restore(0)", x -> x.restore(0));
        add("restore(1)", x -> x.restore(1));
    }

    private static void questions() {
        for (int value : new int[] {-1, 0, 1, 4, 8, 9, 12, 9999, 10000}) {
            add("ofTariff(" + value + ", 0)", x -> always(x.ofTariff(value, 0)));
            add("ofTariff(1, " + value + ")", x -> always(x.ofTariff(1, value)));
            add("ride(" + value + ")", x -> always(x.ride(value)));
            add("log(" + value + ", 0)", x -> always(x.log(value, 0)));
            add("log(0, " + value + ")", x -> always(x.log(0, value)));
            add("count(" + value + ")", x -> always(x.count(value)));
            add("would(" + value + ", 30)", x -> always(x.would(value, 30)));
            add("would(77, " + value + ")", x -> always(x.would(77, value)));
            add("price(" + value + ", 30)", x -> always(x.price(value, 30)));
            add("price(77, " + value + ")", x -> always(x.price(77, value)));
            add("farthest(" + value + ", 40)", x -> always(x.farthest(value, 40)));
            add("farthest(5, " + value + ")", x -> always(x.farthest(5, value)));
            add("cheapest(" + value + ", 9, 0)", x -> always(x.cheapest(value, 9, 0)));
            add("cheapest(77, " + value + ", 1)", x -> always(x.cheapest(77, value, 1)));
            add("cheapest(77, 9, " + value + ")", x -> always(x.cheapest(77, 9, value)));
        }
        add("fault()", x -> always(x.fault()));
    }

    /** A question has to change nothing whatever it answers, so it is looked at like an error. */
    private static int always(int answer) {
        return Math.min(answer, -1);
    }

    /** Makes each call on a meter of its own; where it returned an error, the meter has to be as without the call. */
    private static String eachCall(String state, Supplier<FareDrops> meter, String other) {
        part("a call that returns an error changes nothing, " + state);
        String due = whole(meter.get());
        same("whole() of another state", due.equals(other) ? "alike " : "other ", "other ");
        for (int i = 0; i < calls.size(); i++) {
            FareDrops x = meter.get();
            if (calls.get(i).on(x) < 0) {
                same(names.get(i), whole(x), due);
            }
        }
        return due;
    }

    /** The states bring these errors about; without them the calls above would show nothing. */
    private static void errorsAreReached() {
        part("the errors of these states");
        due("new, drive", new FareDrops().drive(1, 1), NOT_POSSIBLE);
        due("new, undo", new FareDrops().undo(), NOT_POSSIBLE);
        due("new, restore", new FareDrops().restore(0), NOT_POSSIBLE);
        due("new, carryOut", new FareDrops().carryOut(), BAD_TEXT);
        due("free, halt", free().halt(), NOT_POSSIBLE);
        due("free, extra", free().extra(), NOT_POSSIBLE);
        due("free, end", free().end(), NOT_POSSIBLE);
        due("free, drive", free().drive(1, 1), NOT_POSSIBLE);
        due("free, carryOut", free().carryOut(), BAD_TEXT);
        due("free, put", free().put(packed(";h;h;h;h")), TOO_MANY);
        due("running, hire", running().hire(), NOT_POSSIBLE);
        due("running, rest", running().rest(1), NOT_POSSIBLE);
        due("running, extra", running().extra(), TOO_MANY);
        due("running, put", running().put(packed(";h;h;h;h")), TOO_MANY);
        due("running, restore", running().restore(1), NOT_POSSIBLE);
        due("halting, hire", halting().hire(), NOT_POSSIBLE);
        due("halting, drive", halting().drive(1, 1), NOT_POSSIBLE);
        due("halting, carryOut", halting().carryOut(), BAD_TEXT);
    }

    /** A free meter behind 13 rides, with a full history and a pad that has a fault. */
    private static FareDrops free() {
        FareDrops x = new FareDrops();
        x.tariff(1, 5, 6, 7, 8);
        x.priceOfExtra(50);
        waitFor(x, 86000);
        for (int i = 0; i < 13; i++) {
            x.hire();
            x.extra();
            x.drive(40 * i, 25 + i);
            x.end();
            if (i == 6) {
                x.save(0);
            }
        }
        write(x, "h;".repeat(37) + "q");
        return x;
    }

    /** A running meter with nine extras, whose rest is to be carried; its pad is full and has no fault. */
    private static FareDrops running() {
        FareDrops x = new FareDrops();
        x.rest(3590);
        x.hire();
        x.end();
        x.hire();
        x.drive(70, 6);
        for (int i = 0; i < 9; i++) {
            x.extra();
        }
        x.tariff(0, 11, 12, 130, 14);
        x.hour(0, 1);
        x.save(0);
        x.drive(9, 3);
        x.hour(0, 2);
        write(x, "x;".repeat(38) + "d5/1");
        return x;
    }

    /** A halting meter with few changes, some of them undone, and a short pad that ends too early. */
    private static FareDrops halting() {
        FareDrops x = new FareDrops();
        x.hire();
        x.drive(55, 5);
        x.halt();
        x.rest(7);
        x.save(1);
        x.rest(9);
        x.end();
        x.undo();
        write(x, "s;d5/");
        return x;
    }

    /** All that later calls could tell apart; the meter is used up by it. */
    private static String whole(FareDrops x) {
        StringBuilder text = new StringBuilder(seen(x));
        text.append(x.count(7)).append(' ').append(x.fault()).append(' ');
        text.append(x.count(8)).append(' ').append(x.would(9, 2)).append(' ');
        while (x.count(8) > 0) {
            text.append(x.undo()).append(" undone ").append(glance(x));
        }
        for (int slot = 0; slot < 2; slot++) {
            text.append(x.restore(slot)).append(" restored ").append(glance(x));
        }
        x.hire();
        text.append(x.carryOut()).append(" carried ").append(glance(x));
        text.append(x.put('/')).append(' ').append(x.wipe()).append(' ');
        return text.toString();
    }

    private static String glance(FareDrops x) {
        StringBuilder text = new StringBuilder();
        for (int what = 0; what < 7; what++) {
            text.append(x.count(what)).append(' ');
        }
        for (int what = 0; what < 9; what++) {
            text.append(x.ride(what)).append(' ');
        }
        for (int tariff = 0; tariff < 2; tariff++) {
            for (int what = 0; what < 5; what++) {
                text.append(x.ofTariff(tariff, what)).append(' ');
            }
        }
        return text.append(x.log(0, 0)).append(' ').append(x.would(90, 7)).append(' ').toString();
    }
}
