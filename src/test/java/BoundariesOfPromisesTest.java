/** Each sentence of promises 1 to 18 that names a boundary, with a test of its own: the last allowed, the first not. */
public final class BoundariesOfPromisesTest extends Checks {
    private static final int DAY = 86400;

    public static void main(String[] args) {
        newObjectIsFree();
        newObjectIsEmpty();
        tariffWithoutSuch();
        tariffBegin();
        tariffDrop();
        tariffWay();
        tariffTime();
        tariffPreviousDrop();
        hourWithoutSuch();
        hourWithoutSuchTariff();
        hourPrevious();
        extraPrice();
        extrasThatWereTakenStay();
        hireOnlyWhenFree();
        hireReturnsTariff();
        drivePulses();
        driveSeconds();
        driveOnlyWhenRunning();
        driveReturnsDrops();
        restSeconds();
        restNotWhenRunning();
        restReturnsSecond();
        haltNotWhenFree();
        haltTurnsBack();
        extraNotWhenFree();
        extraNine();
        extraCostsAsNow();
        endNotWhenFree();
        endReturnsFareWithExtras();
        ofTariffWithoutSuch();
        ofTariffWhat();
        ofTariffHours();
        rideWhat();
        rideIfThereWasNone();
        rideThatEndedLast();
        logAgo();
        logWhat();
        countWhat();
        countOfRides();
        countOfFares();
        countOfLogPadAndHistory();
        wouldErrors();
        wouldCoins();
        pricePulses();
        priceSeconds();
        priceWhateverTheMeterDoes();
        farthestSeconds();
        farthestCoins();
        farthestFromZeroTo999();
        farthestNone();
        farthestWhereMoreCostLess();
        farthestNoneWhereMoreCostLess();
        cheapestErrors();
        cheapestWhat();
        cheapestLowest();
        cheapestAtTheBeginning();
        cheapestOf24();
        close();
    }

    // ---- promise 1

    private static void newObjectIsFree() {
        FareDrops x = begin("1: a free meter at the second 0");
        due("free", x.count(1), 0);
        due("second", x.count(0), 0);
        due("rest(1)", x.rest(1), 1);
        due("hire()", new FareDrops().hire(), 0);
    }

    private static void newObjectIsEmpty() {
        FareDrops x = begin("1: without rides, pad, history and slots");
        due("rides that ended", x.count(4), 0);
        due("fares", x.count(5), 0);
        due("log", x.count(6), 0);
        due("pad", x.count(7), 0);
        due("history", x.count(8), 0);
        due("log(0, 0)", x.log(0, 0), NO_SUCH);
        due("undo()", x.undo(), NOT_POSSIBLE);
        due("wipe()", x.wipe(), 0);
        due("carryOut()", x.carryOut(), BAD_TEXT);
        due("restore(0)", x.restore(0), NOT_POSSIBLE);
        due("restore(1)", x.restore(1), NOT_POSSIBLE);
        FareDrops y = new FareDrops();
        y.tariff(0, 1, 1, 1, 1);
        y.hire();
        y.put('h');
        due("objects share nothing", x.ofTariff(0, 0), 30);
        due("objects share nothing", x.count(1), 0);
        due("objects share nothing", x.count(7), 0);
    }

    // ---- promise 2

    private static void tariffWithoutSuch() {
        part("2: NO_SUCH if there is no such tariff");
        range("tariff", 0, 2, NO_SUCH, FareDrops::new, (x, value) -> x.tariff(value, 30, 2, 100, 20));
        range("tariff ahead of bad values", 0, 2, NO_SUCH, FareDrops::new,
            (x, value) -> x.tariff(value, value < 0 || value > 2 ? 1000 : 0, 1, 1, 1));
    }

    private static void tariffBegin() {
        part("2: begin 0 to 999");
        range("begin", 0, 999, BAD_VALUE, FareDrops::new, (x, value) -> x.tariff(0, value, 2, 100, 20));
        FareDrops x = new FareDrops();
        x.tariff(0, 0, 2, 100, 20);
        due("ofTariff(0, 0)", x.ofTariff(0, 0), 0);
        due("price(0, 1)", x.price(0, 1), 0);
        x.tariff(0, 999, 2, 100, 20);
        due("ofTariff(0, 0)", x.ofTariff(0, 0), 999);
        due("price(0, 1)", x.price(0, 1), 999);
    }

    private static void tariffDrop() {
        part("2: drop 1 to 99");
        range("drop", 1, 99, BAD_VALUE, FareDrops::new, (x, value) -> x.tariff(1, 30, value, 100, 20));
        FareDrops x = new FareDrops();
        x.tariff(0, 0, 1, 100, 20);
        due("ofTariff(0, 1)", x.ofTariff(0, 1), 1);
        due("price(200, 1)", x.price(200, 1), 2);
        x.tariff(0, 0, 99, 100, 20);
        due("ofTariff(0, 1)", x.ofTariff(0, 1), 99);
        due("price(200, 1)", x.price(200, 1), 198);
    }

    private static void tariffWay() {
        part("2: way 1 to 999");
        range("way", 1, 999, BAD_VALUE, FareDrops::new, (x, value) -> x.tariff(2, 30, 2, value, 20));
        FareDrops x = new FareDrops();
        x.tariff(0, 0, 1, 1, 20);
        due("ofTariff(0, 2)", x.ofTariff(0, 2), 1);
        due("price(1, 1)", x.price(1, 1), 1);
        x.tariff(0, 0, 1, 999, 20);
        due("ofTariff(0, 2)", x.ofTariff(0, 2), 999);
        due("price(998, 1)", x.price(998, 1), 0);
        due("price(999, 1)", x.price(999, 1), 1);
    }

    private static void tariffTime() {
        part("2: time 1 to 999");
        range("time", 1, 999, BAD_VALUE, FareDrops::new, (x, value) -> x.tariff(0, 30, 2, 100, value));
        FareDrops x = new FareDrops();
        x.tariff(0, 0, 1, 100, 1);
        due("ofTariff(0, 3)", x.ofTariff(0, 3), 1);
        due("price(0, 1)", x.price(0, 1), 1);
        x.tariff(0, 0, 1, 100, 999);
        due("ofTariff(0, 3)", x.ofTariff(0, 3), 999);
        due("price(0, 998)", x.price(0, 998), 0);
        due("price(0, 999)", x.price(0, 999), 1);
    }

    private static void tariffPreviousDrop() {
        FareDrops x = begin("2: returns the previous drop");
        due("at first", x.tariff(2, 30, 1, 100, 20), 2);
        due("the least", x.tariff(2, 30, 99, 100, 20), 1);
        due("refused", x.tariff(2, 30, 100, 100, 20), BAD_VALUE);
        due("the most", x.tariff(2, 30, 2, 100, 20), 99);
        due("of another tariff", x.tariff(1, 30, 3, 100, 20), 2);
    }

    // ---- promise 3

    private static void hourWithoutSuch() {
        part("3: NO_SUCH if there is no such hour");
        range("hour", 0, 23, NO_SUCH, FareDrops::new, (x, value) -> x.hour(value, 0));
        FareDrops x = new FareDrops();
        x.hour(0, 1);
        x.hour(23, 2);
        due("the first hour", x.count(2), 1);
        waitFor(x, DAY - 1);
        due("the last hour", x.count(2), 2);
        due("ofTariff(0, 4)", x.ofTariff(0, 4), 22);
    }

    private static void hourWithoutSuchTariff() {
        part("3: NO_SUCH if there is no such tariff");
        range("tariff", 0, 2, NO_SUCH, FareDrops::new, (x, value) -> x.hour(5, value));
        FareDrops x = new FareDrops();
        due("no such hour nor tariff", x.hour(24, 3), NO_SUCH);
        due("no such hour nor tariff", x.hour(-1, -1), NO_SUCH);
    }

    private static void hourPrevious() {
        FareDrops x = begin("3: returns the previous one");
        due("at first", x.hour(0, 2), 0);
        due("the last tariff", x.hour(0, 0), 2);
        due("the first tariff", x.hour(0, 1), 0);
        due("refused", x.hour(0, 3), NO_SUCH);
        due("the one ahead of that", x.hour(0, 0), 1);
        due("another hour", x.hour(1, 0), 0);
    }

    // ---- promise 4

    private static void extraPrice() {
        part("4: BAD_VALUE if coins is not 0 to 99");
        range("coins", 0, 99, BAD_VALUE, FareDrops::new, (x, value) -> x.priceOfExtra(value));
        FareDrops x = new FareDrops();
        due("at first", x.priceOfExtra(0), 5);
        due("count(3)", x.count(3), 0);
        due("the least", x.priceOfExtra(99), 0);
        due("count(3)", x.count(3), 99);
        due("refused", x.priceOfExtra(100), BAD_VALUE);
        due("the most", x.priceOfExtra(5), 99);
    }

    private static void extrasThatWereTakenStay() {
        FareDrops x = begin("4: extras that were taken stay");
        x.hire();
        x.extra();
        x.priceOfExtra(99);
        due("ride(1)", x.ride(1), 5);
        due("ride(7)", x.ride(7), 1);
        x.priceOfExtra(0);
        due("end()", x.end(), 35);
    }

    // ---- promise 5

    private static void hireOnlyWhenFree() {
        FareDrops x = begin("5: NOT_POSSIBLE if the meter is not free");
        due("free", x.hire(), 0);
        due("runs", x.hire(), NOT_POSSIBLE);
        x.halt();
        due("halts", x.hire(), NOT_POSSIBLE);
        x.halt();
        due("runs on", x.hire(), NOT_POSSIBLE);
        x.end();
        due("free", x.hire(), 0);
        x.undo();
        due("free again", x.hire(), 0);
    }

    private static void hireReturnsTariff() {
        part("5: returns the tariff by which the fare begins");
        for (int tariff = 0; tariff < 3; tariff++) {
            FareDrops x = new FareDrops();
            x.tariff(tariff, 100 + tariff, 2, 100, 20);
            x.hour(0, tariff);
            due("hire()", x.hire(), tariff);
            due("ride(0)", x.ride(0), 100 + tariff);
        }
    }

    // ---- promise 6

    private static FareDrops hired() {
        FareDrops x = new FareDrops();
        x.hire();
        return x;
    }

    private static FareDrops halted() {
        FareDrops x = hired();
        x.halt();
        return x;
    }

    private static void drivePulses() {
        part("6: pulses 0 to 9999");
        range("pulses", 0, 9999, BAD_VALUE, BoundariesOfPromisesTest::hired, (x, value) -> x.drive(value, 1));
        FareDrops x = hired();
        x.drive(0, 1);
        due("ride(2)", x.ride(2), 0);
        due("drive(9999, 1)", x.drive(9999, 1), 100);
        due("ride(2)", x.ride(2), 9999);
        due("drive(10000, 1)", x.drive(10000, 1), BAD_VALUE);
        due("ride(2)", x.ride(2), 9999);
    }

    private static void driveSeconds() {
        part("6: seconds 1 to 9999");
        range("seconds", 1, 9999, BAD_VALUE, BoundariesOfPromisesTest::hired, (x, value) -> x.drive(0, value));
        FareDrops x = hired();
        x.drive(0, 1);
        due("ride(3)", x.ride(3), 1);
        due("drive(0, 9999)", x.drive(0, 9999), 500);
        due("ride(3)", x.ride(3), 10000);
        due("drive(0, 0)", x.drive(0, 0), BAD_VALUE);
        due("count(0)", x.count(0), 10000);
    }

    private static void driveOnlyWhenRunning() {
        part("6: NOT_POSSIBLE if the meter does not run");
        due("free", new FareDrops().drive(0, 1), NOT_POSSIBLE);
        due("runs", hired().drive(0, 1), 0);
        due("halts", halted().drive(0, 1), NOT_POSSIBLE);
        FareDrops x = halted();
        x.halt();
        due("runs on", x.drive(0, 1), 0);
        x.end();
        due("free again", x.drive(0, 1), NOT_POSSIBLE);
        due("free, bad", x.drive(10000, 1), BAD_VALUE);
        due("halts, bad", halted().drive(0, 0), BAD_VALUE);
    }

    private static void driveReturnsDrops() {
        FareDrops x = begin("6: returns how many drops there are in it");
        x.hire();
        due("none", x.drive(99, 1), 0);
        due("one", x.drive(5, 1), 1);
        due("only those in it", x.drive(0, 1), 0);
        due("by way and by time", x.drive(100, 40), 2);
        due("ride(5) and ride(6)", x.ride(5) + x.ride(6), 3);
        x.tariff(0, 0, 1, 1, 1);
        due("the most", x.drive(9999, 9999), 9999);
        due("by 99 coins too", x.tariff(0, 0, 99, 1, 1), 1);
        due("not their coins", x.drive(3, 1), 3);
    }

    // ---- promise 7

    private static void restSeconds() {
        part("7: seconds 1 to 9999");
        range("seconds, free", 1, 9999, BAD_VALUE, FareDrops::new, (x, value) -> x.rest(value));
        range("seconds, halting", 1, 9999, BAD_VALUE, BoundariesOfPromisesTest::halted, (x, value) -> x.rest(value));
        FareDrops x = halted();
        x.rest(1);
        due("ride(4)", x.ride(4), 1);
        x.rest(9999);
        due("ride(4)", x.ride(4), 10000);
        x.rest(10000);
        due("ride(4)", x.ride(4), 10000);
        due("count(0)", x.count(0), 10000);
    }

    private static void restNotWhenRunning() {
        part("7: NOT_POSSIBLE if the meter runs");
        due("free", new FareDrops().rest(1), 1);
        due("runs", hired().rest(1), NOT_POSSIBLE);
        due("runs", hired().rest(9999), NOT_POSSIBLE);
        due("halts", halted().rest(1), 1);
        due("runs, bad", hired().rest(0), BAD_VALUE);
        due("runs, bad", hired().rest(10000), BAD_VALUE);
    }

    private static void restReturnsSecond() {
        FareDrops x = at(DAY - 2);
        part("7: returns the second of the day then");
        due("the last second", x.rest(1), 86399);
        due("the first second", x.rest(1), 0);
        due("of a free meter, no halting", x.ride(4), 0);
        x.hire();
        x.halt();
        due("halting", x.rest(9999), 9999);
    }

    // ---- promise 8

    private static void haltNotWhenFree() {
        part("8: NOT_POSSIBLE if it is free");
        due("free", new FareDrops().halt(), NOT_POSSIBLE);
        due("runs", hired().halt(), 2);
        due("halts", halted().halt(), 1);
        FareDrops x = halted();
        x.end();
        due("free again", x.halt(), NOT_POSSIBLE);
    }

    private static void haltTurnsBack() {
        FareDrops x = begin("8: the meter halts, or runs on; returns how it is then, 1 or 2");
        x.hire();
        for (int i = 0; i < 4; i++) {
            due("halt()", x.halt(), i % 2 == 0 ? 2 : 1);
            due("count(1)", x.count(1), i % 2 == 0 ? 2 : 1);
        }
        x.halt();
        x.end();
        x.hire();
        due("the next ride runs", x.count(1), 1);
    }

    // ---- promise 9

    private static void extraNotWhenFree() {
        part("9: NOT_POSSIBLE if the meter is free");
        due("free", new FareDrops().extra(), NOT_POSSIBLE);
        due("runs", hired().extra(), 1);
        due("halts", halted().extra(), 1);
        FareDrops x = hired();
        for (int i = 0; i < 9; i++) {
            x.extra();
        }
        x.end();
        due("free again, behind nine", x.extra(), NOT_POSSIBLE);
    }

    private static void extraNine() {
        FareDrops x = begin("9: TOO_MANY if there are 9");
        x.hire();
        for (int i = 1; i <= 8; i++) {
            due("extra()", x.extra(), i);
        }
        x.halt();
        due("the ninth", x.extra(), 9);
        due("the tenth", x.extra(), TOO_MANY);
        due("the eleventh", x.extra(), TOO_MANY);
        due("ride(7)", x.ride(7), 9);
        due("ride(1)", x.ride(1), 45);
        x.priceOfExtra(0);
        due("even for nothing", x.extra(), TOO_MANY);
        due("end()", x.end(), 75);
        x.hire();
        due("of the next ride", x.extra(), 1);
    }

    private static void extraCostsAsNow() {
        FareDrops x = begin("9: it costs EXTRA as that is now");
        x.hire();
        x.priceOfExtra(0);
        x.extra();
        due("0", x.ride(1), 0);
        x.priceOfExtra(99);
        x.extra();
        due("99", x.ride(1), 99);
        due("returns how many the ride has", x.extra(), 3);
        due("198", x.ride(1), 198);
        due("no part of the fare", x.ride(0), 30);
    }

    // ---- promise 10

    private static void endNotWhenFree() {
        part("10: NOT_POSSIBLE if the meter is free");
        due("free", new FareDrops().end(), NOT_POSSIBLE);
        due("runs", hired().end(), 30);
        due("halts", halted().end(), 30);
        FareDrops x = hired();
        x.end();
        due("free again", x.end(), NOT_POSSIBLE);
        due("count(4)", x.count(4), 1);
        due("count(6)", x.count(6), 1);
    }

    private static void endReturnsFareWithExtras() {
        FareDrops x = begin("10: returns the fare with extras");
        x.tariff(0, 0, 2, 100, 20);
        x.hire();
        due("the least", x.end(), 0);
        x.hire();
        x.drive(100, 1);
        x.extra();
        due("with an extra", x.end(), 7);
        x.hire();
        due("the next without", x.end(), 0);
    }

    // ---- promise 11

    private static void ofTariffWithoutSuch() {
        part("11: NO_SUCH if there is no such tariff");
        range("tariff", 0, 2, NO_SUCH, FareDrops::new, (x, value) -> x.ofTariff(value, 0));
        range("tariff ahead of a bad what", 0, 2, NO_SUCH, FareDrops::new,
            (x, value) -> x.ofTariff(value, value < 0 || value > 2 ? 5 : 4));
    }

    private static void ofTariffWhat() {
        part("11: BAD_VALUE if what is out of range, 0 to 4");
        for (int tariff = 0; tariff < 3; tariff++) {
            int of = tariff;
            range("what", 0, 4, BAD_VALUE, FareDrops::new, (x, value) -> x.ofTariff(of, value));
        }
        FareDrops x = new FareDrops();
        x.tariff(1, 11, 12, 13, 14);
        x.hour(23, 1);
        tariffs(x, 1, 11, 12, 13, 14, 1, BAD_VALUE);
        x.tariff(1, 0, 1, 1, 1);
        tariffs(x, 1, 0, 1, 1, 1, 1, BAD_VALUE);
        x.tariff(1, 999, 99, 999, 999);
        tariffs(x, 1, 999, 99, 999, 999, 1, BAD_VALUE);
    }

    private static void ofTariffHours() {
        FareDrops x = begin("11: how many hours have it, 0 to 24");
        due("all", x.ofTariff(0, 4), 24);
        due("none", x.ofTariff(2, 4), 0);
        for (int hour = 0; hour < 24; hour++) {
            x.hour(hour, 2);
            due("ofTariff(0, 4)", x.ofTariff(0, 4), 23 - hour);
            due("ofTariff(2, 4)", x.ofTariff(2, 4), hour + 1);
        }
        x.hour(3, 2);
        due("twice is once", x.ofTariff(2, 4), 24);
        due("none of the other", x.ofTariff(1, 4), 0);
    }

    // ---- promise 12

    private static void rideWhat() {
        part("12: BAD_VALUE if what is out of range, 0 to 8");
        range("what, no ride", 0, 8, BAD_VALUE, FareDrops::new, (x, value) -> x.ride(value));
        range("what, a ride", 0, 8, BAD_VALUE, BoundariesOfPromisesTest::hired, (x, value) -> x.ride(value));
        FareDrops x = hired();
        x.extra();
        x.drive(170, 2);
        x.drive(0, 45);
        x.halt();
        x.rest(6);
        rides(x, 36, 5, 170, 47, 6, 1, 2, 1, 1900, BAD_VALUE);
    }

    private static void rideIfThereWasNone() {
        FareDrops x = begin("12: 0 for each, if there was none");
        rides(x, 0, 0, 0, 0, 0, 0, 0, 0, 0);
        x.rest(5000);
        x.tariff(0, 9, 9, 9, 9);
        x.drive(1, 1);
        x.extra();
        x.end();
        rides(x, 0, 0, 0, 0, 0, 0, 0, 0, 0);
        x.hire();
        due("then there is one", x.ride(0), 9);
        x.undo();
        rides(x, 0, 0, 0, 0, 0, 0, 0, 0, 0);
    }

    private static void rideThatEndedLast() {
        FareDrops x = begin("12: of the one that ended last, if the meter is free");
        x.hire();
        x.extra();
        x.drive(170, 2);
        x.halt();
        x.rest(6);
        x.end();
        rides(x, 32, 5, 170, 2, 6, 1, 0, 1, 1400);
        x.rest(99);
        x.priceOfExtra(50);
        x.tariff(0, 1, 1, 1, 1);
        x.halt();
        rides(x, 32, 5, 170, 2, 6, 1, 0, 1, 1400);
        x.hire();
        rides(x, 1, 0, 0, 0, 0, 0, 0, 0, 0);
    }

    // ---- promise 13

    private static FareDrops behindRides(int rides) {
        FareDrops x = new FareDrops();
        for (int i = 1; i <= rides; i++) {
            x.hire();
            x.drive(i, 1);
            x.end();
        }
        return x;
    }

    private static void logAgo() {
        part("13: NO_SUCH if there is no such ride");
        for (int rides : new int[] {1, 2, 11, 12, 13, 30}) {
            int kept = Math.min(rides, 12);
            range("ago behind " + rides, 0, kept - 1, NO_SUCH, () -> behindRides(rides), (x, value) -> x.log(value, 1));
            FareDrops x = behindRides(rides);
            due("0 is the one that ended last", x.log(0, 1), rides);
            due("the first that is kept", x.log(kept - 1, 1), rides - kept + 1);
        }
        FareDrops x = new FareDrops();
        due("no ride", x.log(0, 0), NO_SUCH);
        due("no ride", x.log(-1, 0), NO_SUCH);
        x.hire();
        due("it goes on", x.log(0, 0), NO_SUCH);
        x.end();
        due("it ended", x.log(0, 0), 30);
        x.hire();
        due("it goes on", x.log(1, 0), NO_SUCH);
        x.undo();
        x.undo();
        due("its end is undone", x.log(0, 0), NO_SUCH);
    }

    private static void logWhat() {
        part("13: BAD_VALUE if what is out of range, 0 to 4");
        range("what", 0, 4, BAD_VALUE, () -> behindRides(1), (x, value) -> x.log(0, value));
        range("what of the last", 0, 4, BAD_VALUE, () -> behindRides(13), (x, value) -> x.log(11, value));
        due("no such ride and bad", behindRides(1).log(1, 5), NO_SUCH);
        due("no such ride and bad", behindRides(13).log(12, -1), NO_SUCH);
        FareDrops x = at(DAY - 1);
        x.hire();
        x.extra();
        x.drive(340, 2);
        x.drive(0, 20);
        x.halt();
        x.rest(8);
        x.end();
        logs(x, 0, 43, 340, 30, 4, 86399, BAD_VALUE);
    }

    // ---- promise 14

    private static void countWhat() {
        part("14: BAD_VALUE if what is out of range, 0 to 8");
        range("what", 0, 8, BAD_VALUE, FareDrops::new, (x, value) -> x.count(value));
        FareDrops x = at(3600);
        x.hour(1, 2);
        x.priceOfExtra(9);
        x.hire();
        x.end();
        x.hire();
        x.halt();
        write(x, "w1");
        counts(x, 3600, 2, 2, 9, 1, 30, 1, 2, 6, BAD_VALUE);
    }

    private static void countOfRides() {
        FareDrops x = begin("14: rides that ended so far");
        x.hire();
        due("the first goes on", x.count(4), 0);
        x.end();
        due("the first ended", x.count(4), 1);
        due("behind 12", behindRides(12).count(4), 12);
        due("behind 13", behindRides(13).count(4), 13);
    }

    /** A meter whose rides so far cost 10101 drops of 99 and some coins more: 999999 and these. */
    private static FareDrops income(int more) {
        FareDrops x = new FareDrops();
        x.tariff(0, 0, 99, 1, 1);
        x.hire();
        x.drive(9999, 1);
        x.drive(102, 1);
        due("end()", x.end(), 999999);
        if (more > 0) {
            x.tariff(0, more, 99, 1, 1);
            x.hire();
            due("end()", x.end(), more);
        }
        return x;
    }

    private static void countOfFares() {
        part("14: all fares with extras of these, left over by 1000000");
        due("999999", income(0).count(5), 999999);
        due("1000000", income(1).count(5), 0);
        due("1000001", income(2).count(5), 1);
        due("1000998", income(999).count(5), 998);
        FareDrops x = income(0);
        x.tariff(0, 0, 99, 1, 1);
        x.hire();
        due("a ride for nothing", x.end(), 0);
        due("count(5)", x.count(5), 999999);
        x.hire();
        x.extra();
        due("not ahead of the end", x.count(5), 999999);
        due("an extra", x.end(), 5);
        due("count(5)", x.count(5), 4);
        x.undo();
        due("undone", x.count(5), 999999);

        x = new FareDrops();
        x.tariff(0, 0, 99, 1, 1);
        for (int ride = 0; ride < 3; ride++) {
            x.hire();
            for (int i = 0; i < 11; i++) {
                x.drive(9999, 1);
            }
            due("the most", x.end(), 9999999);
        }
        due("29999997", x.count(5), 999997);
    }

    private static void countOfLogPadAndHistory() {
        part("14: rides in the log, the length of the pad, how many changes can be undone");
        for (int i = 10; i <= 14; i++) {
            due("count(6) behind " + i, behindRides(i).count(6), Math.min(i, 12));
        }
        for (int length : new int[] {0, 1, 79, 80, 81}) {
            FareDrops x = new FareDrops();
            for (int i = 0; i < length; i++) {
                x.put('h');
            }
            due("count(7) behind " + length, x.count(7), Math.min(length, 80));
        }
        for (int changes = 0; changes <= 8; changes++) {
            FareDrops x = new FareDrops();
            for (int i = 0; i < changes; i++) {
                x.rest(1);
            }
            due("count(8) behind " + changes, x.count(8), Math.min(changes, 6));
        }
    }

    // ---- promise 15

    private static void wouldErrors() {
        part("15: errors as for drive()");
        range("pulses", 0, 9999, BAD_VALUE, BoundariesOfPromisesTest::hired, (x, value) -> x.would(value, 1));
        range("seconds", 1, 9999, BAD_VALUE, BoundariesOfPromisesTest::hired, (x, value) -> x.would(0, value));
        due("free", new FareDrops().would(0, 1), NOT_POSSIBLE);
        due("runs", hired().would(0, 1), 0);
        due("halts", halted().would(0, 1), NOT_POSSIBLE);
        due("free, bad", new FareDrops().would(10000, 1), BAD_VALUE);
        due("halts, bad", halted().would(0, 0), BAD_VALUE);
        FareDrops x = hired();
        x.end();
        due("free again", x.would(0, 1), NOT_POSSIBLE);
    }

    private static void wouldCoins() {
        FareDrops x = begin("15: by how many coins the fare would grow");
        x.hire();
        x.drive(0, 19);
        due("a drop", x.would(0, 1), 2);
        due("the same again", x.would(0, 1), 2);
        due("nothing changed", x.ride(8), 1900);
        due("nothing changed", x.count(0), 19);
        due("no change to undo", x.count(8), 2);
        x.tariff(0, 0, 99, 1, 1);
        due("the most pulses", x.would(9999, 1), 9999 * 99);
        due("the most seconds", x.would(0, 9999), 9999 * 99);
        due("both", x.would(9999, 9999), 9999 * 99);
        x = hired();
        x.drive(0, 18);
        due("none", x.would(0, 1), 0);
        x.extra();
        due("no extras", x.would(0, 2), 2);
    }

    // ---- promise 16

    private static void pricePulses() {
        part("16: pulses 0 to 9999");
        range("pulses", 0, 9999, BAD_VALUE, FareDrops::new, (x, value) -> x.price(value, 1));
        due("price(0, 1)", new FareDrops().price(0, 1), 30);
        due("price(9999, 1)", new FareDrops().price(9999, 1), 228);
    }

    private static void priceSeconds() {
        part("16: seconds 1 to 9999");
        range("seconds", 1, 9999, BAD_VALUE, FareDrops::new, (x, value) -> x.price(0, value));
        due("price(0, 19)", new FareDrops().price(0, 19), 30);
        due("price(0, 20)", new FareDrops().price(0, 20), 32);
        due("price(0, 9999)", new FareDrops().price(0, 9999), 1028);
    }

    private static void priceWhateverTheMeterDoes() {
        FareDrops x = begin("16: a ride hired now, whatever the meter does");
        x.tariff(1, 7, 1, 1, 1);
        x.hour(1, 1);
        due("free", x.price(100, 20), 32);
        x.hire();
        x.drive(0, 3599);
        x.extra();
        due("runs, with a rest of 1900", x.price(0, 1), 30);
        due("over the hour", x.price(0, 2), 31);
        x.halt();
        x.rest(1);
        due("halts, in the next hour", x.price(0, 1), 8);
        x.drive(0, 1);
        due("nothing changed", x.count(1), 2);
        due("nothing changed", x.ride(3), 3599);
        range("pulses, halting", 0, 9999, BAD_VALUE, BoundariesOfPromisesTest::halted, (y, value) -> y.price(value, 1));
    }

    // ---- promise 17

    private static void farthestSeconds() {
        part("17: seconds 1 to 999");
        range("seconds", 1, 999, BAD_VALUE, FareDrops::new, (x, value) -> x.farthest(value, 1000));
        due("farthest(1, 31)", new FareDrops().farthest(1, 31), 99);
        due("farthest(999, 128)", new FareDrops().farthest(999, 128), 999);
    }

    private static void farthestCoins() {
        FareDrops x = begin("17: coins 0 or more");
        x.tariff(0, 0, 2, 100, 20);
        due("least", x.farthest(1, LEAST), BAD_VALUE);
        due("-2", x.farthest(1, -2), BAD_VALUE);
        due("-1", x.farthest(1, -1), BAD_VALUE);
        due("0", x.farthest(1, 0), 99);
        due("1", x.farthest(1, 1), 99);
        due("most - 1", x.farthest(1, MOST - 1), 999);
        due("most", x.farthest(1, MOST), 999);
    }

    private static void farthestFromZeroTo999() {
        FareDrops x = begin("17: the greatest number of pulses, 0 to 999, that costs no more");
        due("costs as much as told", x.price(199, 1), 32);
        due("costs as much as told", x.farthest(1, 32), 199);
        due("one coin less", x.farthest(1, 31), 99);
        due("one coin more", x.farthest(1, 33), 199);
        due("899", x.farthest(1, 47), 899);
        due("999", x.farthest(1, 48), 999);
        due("1000 is never told", x.farthest(1, 50), 999);
        x.tariff(0, 0, 1, 1, 999);
        due("998", x.farthest(1, 998), 998);
        due("999", x.farthest(1, 999), 999);
        due("1000", x.farthest(1, 1000), 999);
        due("1", x.farthest(1, 1), 1);
        due("0", x.farthest(1, 0), 0);
        due("whatever the meter does", hired().farthest(1, 30), 99);
        due("whatever the meter does", halted().farthest(1, 30), 99);
        x = at(86398);
        x.tariff(0, 0, 1, 1, 999);
        x.hour(23, 2);
        due("by the tariff of now", x.farthest(1, 30), 79);
    }

    private static void farthestNone() {
        FareDrops x = begin("17: NONE if it costs more with 0");
        due("costs as much", x.farthest(1, 30), 99);
        due("costs one more", x.farthest(1, 29), NONE);
        due("costs 30 more", x.farthest(1, 0), NONE);
        due("costs as much by time", x.farthest(20, 32), 199);
        due("costs one more by time", x.farthest(20, 31), NONE);
        x.tariff(0, 999, 99, 1, 1);
        due("the dearest", x.farthest(999, 999 + 999 * 99), 999);
        due("the dearest, one less", x.farthest(999, 999 + 999 * 99 - 1), NONE);
    }

    /** Nine or ten seconds, the last in a tariff with dear drops: more pulses leave less rest to be carried to it. */
    private static FareDrops whereMoreCostLess(int second) {
        FareDrops x = at(second);
        x.tariff(0, 0, 1, 100, 10);
        x.tariff(1, 0, 99, 100, 10);
        x.hour(1, 1);
        return x;
    }

    private static void farthestWhereMoreCostLess() {
        FareDrops x = whereMoreCostLess(3592);
        part("17: the greatest number, also where less pulses cost more than told");
        due("price(0, 9)", x.price(0, 9), 0);
        due("price(107, 9)", x.price(107, 9), 99);
        due("price(799, 9)", x.price(799, 9), 7);
        due("price(800, 9)", x.price(800, 9), 106);
        due("farthest(9, 50)", x.farthest(9, 50), 799);
        due("farthest(9, 7)", x.farthest(9, 7), 799);
    }

    private static void farthestNoneWhereMoreCostLess() {
        FareDrops x = whereMoreCostLess(3591);
        part("17: NONE if it costs more with 0, also where more pulses cost less");
        due("price(0, 10)", x.price(0, 10), 99);
        due("price(115, 10)", x.price(115, 10), 1);
        due("farthest(10, 98)", x.farthest(10, 98), NONE);
        due("farthest(10, 1)", x.farthest(10, 1), NONE);
        due("farthest(10, 99) finds one", x.farthest(10, 99) >= 115 ? 1 : 0, 1);
    }

    // ---- promise 18

    private static void cheapestErrors() {
        part("18: BAD_VALUE if an argument is out of range");
        range("pulses", 0, 9999, BAD_VALUE, FareDrops::new, (x, value) -> x.cheapest(value, 1, 0));
        range("seconds", 1, 9999, BAD_VALUE, FareDrops::new, (x, value) -> x.cheapest(0, value, 1));
        range("what", 0, 1, BAD_VALUE, FareDrops::new, (x, value) -> x.cheapest(0, 1, value));
        range("what, halting", 0, 1, BAD_VALUE, BoundariesOfPromisesTest::halted, (x, value) -> x.cheapest(0, 1, value));
    }

    private static void cheapestWhat() {
        FareDrops x = begin("18: 0 the hour, 1 what it costs");
        x.tariff(1, 0, 2, 100, 20);
        x.hour(23, 1);
        due("the hour", x.cheapest(0, 1, 0), 23);
        due("what it costs", x.cheapest(0, 1, 1), 0);
        due("the most pulses", x.cheapest(9999, 1, 1), 198);
        due("the most seconds", x.cheapest(0, 9999, 1), 998);
    }

    private static void cheapestLowest() {
        part("18: of several the lowest one");
        due("all 24", new FareDrops().cheapest(0, 1, 0), 0);
        for (int hour = 0; hour < 23; hour++) {
            FareDrops x = new FareDrops();
            x.tariff(1, 29, 2, 100, 20);
            x.hour(hour, 1);
            due("one of all", x.cheapest(0, 1, 0), hour);
            x.hour(23, 1);
            due("of two", x.cheapest(0, 1, 0), hour);
            x.tariff(1, 31, 2, 100, 20);
            due("two that are dearer", x.cheapest(0, 1, 0), hour == 0 ? 1 : 0);
        }
        FareDrops x = new FareDrops();
        x.tariff(0, 31, 2, 100, 20);
        x.hour(0, 1);
        x.hour(23, 2);
        due("0 and 23", x.cheapest(0, 1, 0), 0);
        x.tariff(2, 29, 2, 100, 20);
        due("by one coin", x.cheapest(0, 1, 0), 23);
    }

    private static void cheapestAtTheBeginning() {
        part("18: the hour at whose beginning such a ride costs the least");
        for (int cheap = 0; cheap < 24; cheap++) {
            FareDrops x = at(3599);
            x.tariff(0, 0, 1, 100, 20);
            x.tariff(1, 0, 99, 1, 1);
            for (int hour = 0; hour < 24; hour++) {
                x.hour(hour, hour == cheap ? 0 : 1);
            }
            due("not from now on", x.cheapest(0, 3600, 0), cheap);
            due("all of its seconds", x.cheapest(0, 3600, 1), 180);
            due("one second of the next", x.cheapest(0, 3601, 1), 279);
            x.hire();
            due("whatever the meter does", x.cheapest(0, 3600, 0), cheap);
        }
    }

    private static void cheapestOf24() {
        FareDrops x = begin("18: there is no hour but 0 to 23");
        x.tariff(0, 0, 2, 100, 20);
        for (int hour = 0; hour < 24; hour++) {
            x.hour(hour, 1);
        }
        due("all by tariff 1", x.cheapest(0, 1, 0), 0);
        due("all by tariff 1", x.cheapest(0, 1, 1), 30);
    }
}
