/** Each sentence of the face, the Terms and "Not promised" that names a boundary, with a test of its own. */
public final class BoundariesOfTermsTest extends Checks {
    private static final int HOUR = 3600;
    private static final int DAY = 86400;
    private static final int MOST_FARE = 9999999;

    public static void main(String[] args) {
        the512thCall();
        codesOfErrors();
        firstErrorThatApplies();
        noneOnlyWithoutError();
        numberedFromZero();
        secondsGoOnWithZero();
        secondsOfWhatIfGoOnWithZero();
        threeTariffs();
        tariffsAtFirst();
        hoursOfTheDay();
        extraAtFirst();
        threeStates();
        fareBegins();
        secondBelongsToItsHour();
        wayOrTimeWhicheverIsGreater();
        bothAlikeIsByWay();
        restAtLeastWayTimesTime();
        fareStaysAtTheMost();
        fareStaysWithoutExtras();
        fareStaysAcrossTariffs();
        dropsCountOn();
        wouldStopsAtTheMost();
        kindBySecondOfTheDrop();
        restIsCarriedToAnotherTariff();
        restIsRoundedDown();
        restIsCarriedEachTime();
        restOfTheFirstSecond();
        haltsDoNotMatter();
        restIsCarriedWhenWayOrTimeChange();
        restStaysWhenOtherThingsChange();
        restIsCarriedWhenTheHourChanges();
        restIsCarriedFromAsTheyWere();
        restIsCarriedAheadOfItsSecond();
        greatRestIsCarried();
        restIsCarriedInWhatIfs();
        restIsCarriedAcrossUndoAndRestore();
        pulsesAreSpread();
        pulsesAreSpreadOverHours();
        pulsesOfEachDriveAreSpreadAnew();
        nothingGrowsWhileItHalts();
        freeWhenTheRideEnds();
        latestTwelveRides();
        padOfEighty();
        textsOfOrders();
        lettersOfOrders();
        numbersOfOrders();
        faultOfEachCharacter();
        faultIsTheFirst();
        faultOfTextThatEndsTooEarly();
        close();
    }

    // ---- the face and the conventions

    private static void the512thCall() {
        FareDrops x = begin("used for at most 512 calls");
        for (int i = 1; i <= 511; i++) {
            due("rest(1)", x.rest(1), i);
        }
        due("call 512", x.count(0), 511);

        x = new FareDrops();
        x.hire();
        for (int i = 0; i < 510; i++) {
            x.drive(9999, 9999);
        }
        due("call 512", x.end(), 509978);

        x = new FareDrops();
        for (int i = 0; i < 255; i++) {
            x.hire();
            x.end();
        }
        due("call 511", x.count(4), 255);
        due("call 512", x.count(5), 7650);

        x = new FareDrops();
        for (int i = 0; i < 505; i++) {
            x.rest(2);
        }
        for (int i = 5; i >= 0; i--) {
            due("undo()", x.undo(), i);
        }
        due("call 512", x.count(0), 998);
    }

    private static void codesOfErrors() {
        part("the error codes, and NONE");
        due("NO_SUCH", FareDrops.NO_SUCH, -1);
        due("BAD_VALUE", FareDrops.BAD_VALUE, -2);
        due("BAD_TEXT", FareDrops.BAD_TEXT, -3);
        due("TOO_MANY", FareDrops.TOO_MANY, -4);
        due("NOT_POSSIBLE", FareDrops.NOT_POSSIBLE, -5);
        due("NONE", FareDrops.NONE, -6);
    }

    private static void firstErrorThatApplies() {
        FareDrops x = begin("the first error that applies is returned");
        due("tariff, no such and bad", x.tariff(3, -1, 0, 0, 0), NO_SUCH);
        due("ofTariff, no such and bad", x.ofTariff(3, 5), NO_SUCH);
        due("log of no ride, bad", x.log(0, 5), NO_SUCH);
        due("drive, bad and free", x.drive(10000, 1), BAD_VALUE);
        due("would, bad and free", x.would(0, 0), BAD_VALUE);
        due("restore, no slot and nothing saved", x.restore(2), BAD_VALUE);
        x.hire();
        due("rest, bad and running", x.rest(0), BAD_VALUE);
        due("rest, bad and running", x.rest(10000), BAD_VALUE);
        x.halt();
        due("drive, bad and halting", x.drive(0, 10000), BAD_VALUE);
        due("would, bad and halting", x.would(-1, 1), BAD_VALUE);
        for (int i = 0; i < 9; i++) {
            x.extra();
        }
        x.end();
        due("extra, free and nine", x.extra(), NOT_POSSIBLE);
        due("log, no such ride and bad", x.log(1, -1), NO_SUCH);
        write(x, "h;".repeat(40));
        due("put, bad and too many", x.put(32), BAD_VALUE);
        due("put, bad and too many", x.put(packed("hhhhhhh ")), BAD_VALUE);
    }

    private static void noneOnlyWithoutError() {
        FareDrops x = begin("NONE is returned only if no error applies");
        due("bad seconds, and it costs more", x.farthest(0, 0), BAD_VALUE);
        due("bad seconds, and it costs more", x.farthest(1000, 0), BAD_VALUE);
        due("bad coins, and it costs more", x.farthest(1, -1), BAD_VALUE);
        due("no error", x.farthest(1, 0), NONE);
        write(x, "h");
        due("no fault", x.fault(), NONE);
    }

    private static void numberedFromZero() {
        FareDrops x = begin("everything is numbered from 0");
        due("tariff 0", x.tariff(0, 1, 3, 5, 7), 2);
        due("hour 0", x.hour(0, 2), 0);
        due("its begin", x.ofTariff(0, 0), 1);
        due("the tariff of now", x.count(2), 2);
        x.hire();
        x.end();
        due("ride 0", x.log(0, 0), 30);
        due("slot 0", x.save(0), 1);
        due("slot 0", x.restore(0), 1);
        due("the second", x.count(0), 0);
    }

    private static void secondsGoOnWithZero() {
        FareDrops x = at(DAY - 2);
        part("the second of the day goes on with 0 behind 86399");
        due("rest(1)", x.rest(1), 86399);
        due("count(0)", x.count(0), 86399);
        due("rest(1)", x.rest(1), 0);
        due("count(0)", x.count(0), 0);
        due("rest(1)", x.rest(1), 1);
        due("rest(9999)", at(DAY - 1).rest(9999), 9998);
        due("rest(9999)", at(DAY - 9999).rest(9999), 0);
        due("rest(9998)", at(DAY - 9999).rest(9998), 86399);

        x = at(DAY - 2);
        x.hire();
        x.drive(0, 1);
        due("behind a drive", x.count(0), 86399);
        x.drive(0, 1);
        due("behind a drive", x.count(0), 0);
        x.halt();
        due("halting", x.rest(9), 9);
        due("end()", x.end(), 30);
        logs(x, 0, 30, 0, 11, 0, 86398);

        x = at(DAY - 1);
        x.hire();
        x.halt();
        due("halting", x.rest(1), 0);
        x.end();
        x.hire();
        x.end();
        logs(x, 0, 30, 0, 0, 0, 0);
        logs(x, 1, 30, 0, 1, 0, 86399);

        x = at(DAY - 1);
        write(x, "w1;h;d0/1;e");
        due("orders", x.carryOut(), 4);
        due("behind orders", x.count(0), 1);
        x = at(DAY - 1);
        write(x, "h;d0/1;e");
        due("orders", x.carryOut(), 3);
        due("behind orders", x.count(0), 0);

        x = new FareDrops();
        waitFor(x, 2 * DAY - 1);
        due("two days", x.count(0), 86399);
        due("two days", x.rest(1), 0);
        x.hire();
        for (int i = 0; i < 27; i++) {
            x.drive(0, 9600);
        }
        due("three days of a drive", x.count(0), 0);
        due("seconds of driving", x.ride(3), 3 * DAY);
    }

    private static void secondsOfWhatIfGoOnWithZero() {
        FareDrops x = at(DAY - 2);
        part("what would be behind 86399 goes on with 0");
        x.tariff(1, 0, 7, 1, 1);
        x.tariff(2, 0, 1, 999, 999);
        x.hour(0, 1);
        due("price(0, 2)", x.price(0, 2), 30);
        due("price(0, 3)", x.price(0, 3), 37);
        due("farthest(2, 30)", x.farthest(2, 30), 99);
        due("farthest(3, 36)", x.farthest(3, 36), NONE);
        due("farthest(3, 37)", x.farthest(3, 37), 3);
        x.hire();
        due("would(0, 2)", x.would(0, 2), 0);
        due("would(0, 3)", x.would(0, 3), 7);
        x.hour(23, 2);
        due("cheapest(0, 3600, 0)", x.cheapest(0, 3600, 0), 23);
        due("cheapest(0, 3600, 1)", x.cheapest(0, 3600, 1), 3);
        due("cheapest(0, 3601, 0)", x.cheapest(0, 3601, 0), 23);
        due("cheapest(0, 3601, 1)", x.cheapest(0, 3601, 1), 10);
    }

    // ---- tariffs

    private static void threeTariffs() {
        FareDrops x = begin("there are 3 tariffs, 0 to 2");
        due("tariff(-1)", x.tariff(-1, 0, 1, 1, 1), NO_SUCH);
        due("tariff(0)", x.tariff(0, 0, 1, 1, 1), 2);
        due("tariff(2)", x.tariff(2, 0, 1, 1, 1), 2);
        due("tariff(3)", x.tariff(3, 0, 1, 1, 1), NO_SUCH);
    }

    private static void tariffsAtFirst() {
        FareDrops x = begin("tariffs at first");
        tariffs(x, 0, 30, 2, 100, 20);
        tariffs(x, 1, 30, 2, 90, 20);
        tariffs(x, 2, 30, 2, 80, 20);
        due("0: below a drop", x.price(99, 1), 30);
        due("0: a drop", x.price(100, 1), 32);
        x.hour(0, 1);
        due("1: below a drop", x.price(89, 1), 30);
        due("1: a drop", x.price(90, 1), 32);
        x.hour(0, 2);
        due("2: below a drop", x.price(79, 1), 30);
        due("2: a drop", x.price(80, 1), 32);
        due("2: below a drop", x.price(0, 19), 30);
        due("2: a drop", x.price(0, 20), 32);
    }

    private static void hoursOfTheDay() {
        for (int hour = 0; hour < 24; hour++) {
            part("each hour of the day has a tariff, 0 at first: hour " + hour);
            FareDrops x = at((hour * HOUR + DAY - 1) % DAY);
            due("count(2) ahead of it, at first", x.count(2), 0);
            due("hour", x.hour(hour, 2), 0);
            due("count(2) ahead of it", x.count(2), 0);
            x.rest(1);
            due("count(2) in its first second", x.count(2), 2);
            x.rest(HOUR - 1);
            due("count(2) in its last second", x.count(2), 2);
            x.rest(1);
            due("count(2) behind it", x.count(2), 0);
            due("hour", x.hour(hour, 0), 2);
            due("ofTariff(0, 4)", x.ofTariff(0, 4), 24);
        }
    }

    private static void extraAtFirst() {
        FareDrops x = begin("an extra costs EXTRA coins, 5 at first");
        due("count(3)", x.count(3), 5);
        x.hire();
        x.extra();
        due("ride(1)", x.ride(1), 5);
        due("priceOfExtra(0)", x.priceOfExtra(0), 5);
        x.extra();
        due("ride(1) with one for 0", x.ride(1), 5);
        x.priceOfExtra(99);
        x.extra();
        due("ride(1) with one for 99", x.ride(1), 104);
    }

    // ---- rides

    private static void threeStates() {
        FareDrops x = begin("the meter is free (0), runs (1), or halts (2)");
        due("free", x.count(1), 0);
        x.hire();
        due("runs", x.count(1), 1);
        x.halt();
        due("halts", x.count(1), 2);
        x.halt();
        due("runs on", x.count(1), 1);
        x.end();
        due("free", x.count(1), 0);
    }

    private static void fareBegins() {
        part("the fare begins with the beginning of the tariff of this hour, and the rest is 0");
        for (int hour : new int[] {0, 1, 23}) {
            FareDrops x = at((hour * HOUR + DAY - 1) % DAY);
            x.tariff(1, 999, 1, 1, 1);
            x.tariff(0, 0, 1, 999, 999);
            x.hour(hour, 1);
            due("ahead of the hour, hire()", x.hire(), 0);
            due("ahead of the hour", x.ride(0), 0);
            x.drive(5, 1);
            due("a rest", x.ride(8), 4995);
            x.end();
            due("the rest of the ride that ended", x.ride(8), 4995);
            due("in its first second, hire()", x.hire(), 1);
            due("in its first second", x.ride(0), 999);
            due("the rest", x.ride(8), 0);
            x.end();
            x.rest(HOUR - 1);
            due("in its last second, hire()", x.hire(), 1);
            x.end();
            x.rest(1);
            due("behind it, hire()", x.hire(), 0);
        }
    }

    private static void secondBelongsToItsHour() {
        part("each second of a drive, by the tariff of the hour in which it begins");
        for (int hour : new int[] {0, 1, 12, 22, 23}) {
            FareDrops x = at((hour * HOUR + DAY - 1) % DAY);
            x.tariff(1, 0, 1, 7, 11);
            x.hour(hour, 1);
            x.hire();
            x.drive(0, 1);
            due("the last second ahead of hour " + hour, x.ride(8), 100);
            x.drive(0, 1);
            due("its first second: 100 * 77 / 2000 + 7", x.ride(8), 10);
            x.drive(0, HOUR - 2);
            due("10 + 3598 * 7 left over by 77", x.ride(8), 17);
            x.drive(0, 1);
            due("its last second", x.ride(8), 24);
            x.drive(0, 1);
            due("the first second behind it: 24 * 2000 / 77 + 100", x.ride(8), 723);
        }
    }

    private static void wayOrTimeWhicheverIsGreater() {
        FareDrops x = begin("the rest grows by pulses * time, or by the way, whichever is greater");
        x.tariff(0, 0, 1, 100, 20);
        x.hire();
        x.drive(0, 1);
        due("0 and 100", x.ride(8), 100);
        x.drive(4, 1);
        due("80 and 100", x.ride(8), 200);
        x.drive(5, 1);
        due("100 and 100", x.ride(8), 300);
        x.drive(6, 1);
        due("120 and 100", x.ride(8), 420);
        x.end();
        x.tariff(0, 0, 1, 999, 999);
        x.hire();
        x.drive(0, 1);
        due("0 and 999", x.ride(8), 999);
        x.drive(1, 1);
        due("999 and 999", x.ride(8), 1998);
        x.drive(2, 1);
        due("1998 and 999", x.ride(8), 3996);
        due("9999 * 999 and 999", x.drive(9999, 1), 10);
        due("3996 + 9989001 - 10 * 998001", x.ride(8), 12987);
        x.end();
        x.tariff(0, 0, 1, 1, 1);
        x.hire();
        due("0 and 1", x.drive(0, 1), 1);
        due("1 and 1", x.drive(1, 1), 1);
        due("2 and 1", x.drive(2, 1), 2);
    }

    private static void bothAlikeIsByWay() {
        FareDrops x = begin("if both are alike, it is by way");
        x.tariff(0, 0, 1, 100, 1);
        x.hire();
        x.drive(99, 1);
        rides(x, 1, 0, 99, 1, 0, 0, 1, 0, 0);
        x.drive(100, 1);
        rides(x, 2, 0, 199, 2, 0, 1, 1, 0, 0);
        x.drive(101, 1);
        rides(x, 3, 0, 300, 3, 0, 2, 1, 0, 1);
        for (int pulses = 4; pulses <= 6; pulses++) {
            x = new FareDrops();
            x.hire();
            x.drive(0, 19);
            due(pulses + " pulses at 1900", x.drive(pulses, 1), 1);
            due(pulses + " pulses, by way", x.ride(5), pulses < 5 ? 0 : 1);
            due(pulses + " pulses, by time", x.ride(6), pulses < 5 ? 1 : 0);
            due(pulses + " pulses, the rest", x.ride(8), pulses == 6 ? 20 : 0);
        }
        x = new FareDrops();
        x.hire();
        due("alike in each second of many", x.drive(500, 100), 5);
        due("all by way", x.ride(5), 5);
        due("one pulse less: by time at the first second", x.drive(499, 100), 5);
        due("by way", x.ride(5), 10);
        due("by time", x.ride(6), 0);
    }

    private static void restAtLeastWayTimesTime() {
        part("as long as the rest is at least way * time, it becomes less by that, and there is a drop");
        restBehind(3, 2, 0, 29);
        restBehind(9, 0, 1, 0);
        restBehind(7, 1, 1, 1);
        restBehind(3, 5, 1, 29);
        restBehind(9, 3, 1, 27);
        restBehind(0, 6, 2, 0);
        restBehind(7, 4, 2, 1);
        restBehind(3, 8, 2, 29);
        restBehind(0, 9, 3, 0);
        restBehind(0, 9999, 3333, 0);
        restBehind(7, 9998, 3333, 11);
    }

    /** By way 3 and time 10 a drop takes 30: some seconds add 3 each, then the pulses of one more add 10 each. */
    private static void restBehind(int seconds, int pulses, int drops, int rest) {
        FareDrops x = new FareDrops();
        x.tariff(0, 0, 1, 3, 10);
        x.hire();
        if (seconds > 0) {
            x.drive(0, seconds);
        }
        String call = seconds + " seconds, then " + pulses + " pulses";
        due(call, x.drive(pulses, 1), drops);
        due(call + ", the rest", x.ride(8), rest);
        due(call + ", the fare", x.ride(0), drops);
    }

    /** A running meter whose fare is 9999900, by drops of 99 coins for each pulse and each second without one. */
    private static FareDrops nearTheMost() {
        FareDrops x = new FareDrops();
        x.tariff(0, 999, 99, 1, 1);
        x.hire();
        for (int i = 0; i < 10; i++) {
            x.drive(9999, 1);
        }
        x.drive(1009, 1);
        return x;
    }

    private static FareDrops nearTheMost(int coins) {
        FareDrops x = nearTheMost();
        if (coins > 9999900) {
            x.tariff(0, 999, coins - 9999900, 1, 1);
            x.drive(1, 1);
        }
        return x;
    }

    private static void fareStaysAtTheMost() {
        FareDrops x = nearTheMost();
        part("the fare is never above 9999999: it stays there");
        due("11 drives", x.ride(0), 9999900);
        x.tariff(0, 999, 98, 1, 1);
        x.drive(0, 1);
        due("98 more", x.ride(0), 9999998);
        x.tariff(0, 999, 1, 1, 1);
        x.drive(0, 1);
        due("1 more", x.ride(0), 9999999);
        x.drive(0, 1);
        due("1 more than the most", x.ride(0), MOST_FARE);
        x.drive(9999, 9999);
        due("many more", x.ride(0), MOST_FARE);
        due("end()", x.end(), MOST_FARE);
        due("log(0, 0)", x.log(0, 0), MOST_FARE);
        x.hire();
        due("the next ride begins anew", x.ride(0), 999);

        x = nearTheMost();
        x.drive(1, 1);
        due("99 more", x.ride(0), 9999999);
        x = nearTheMost(9999999);
        due("99 more", x.ride(0), 9999999);
        x = nearTheMost(9999998);
        x.tariff(0, 999, 99, 1, 1);
        due("one drop", x.drive(1, 1), 1);
        due("from below the most to above it", x.ride(0), MOST_FARE);
        x = nearTheMost();
        due("two drops", x.drive(2, 1), 2);
        due("the second of two drops", x.ride(0), MOST_FARE);
        x = nearTheMost(9999950);
        x.tariff(0, 999, 7, 1, 1);
        x.drive(7, 1);
        due("seven by seven", x.ride(0), 9999999);
        x = nearTheMost(9999951);
        x.tariff(0, 999, 7, 1, 1);
        x.drive(6, 1);
        due("six by seven", x.ride(0), 9999993);
        x.drive(1, 1);
        due("one more by seven", x.ride(0), MOST_FARE);
    }

    private static void fareStaysWithoutExtras() {
        FareDrops x = nearTheMost(9999999);
        part("without extras, the fare is never above 9999999");
        x.priceOfExtra(99);
        for (int i = 1; i <= 9; i++) {
            due("extra()", x.extra(), i);
        }
        x.drive(1, 1);
        due("ride(0)", x.ride(0), MOST_FARE);
        due("ride(1)", x.ride(1), 891);
        due("end()", x.end(), 10000890);
        due("log(0, 0)", x.log(0, 0), 10000890);
        due("count(5)", x.count(5), 890);

        x = nearTheMost();
        x.priceOfExtra(99);
        x.extra();
        x.tariff(0, 999, 98, 1, 1);
        x.drive(1, 1);
        due("extras do not count for it", x.ride(0), 9999998);
        due("end()", x.end(), 10000097);
    }

    private static void fareStaysAcrossTariffs() {
        FareDrops x = begin("the fare stays at the most, whatever the drops");
        waitFor(x, HOUR - 14);
        x.tariff(1, 0, 1, 1, 1);
        x.tariff(0, 999, 99, 1, 1);
        x.hour(1, 1);
        x.hire();
        for (int i = 0; i < 10; i++) {
            x.drive(9999, 1);
        }
        x.drive(1009, 1);
        due("ride(0)", x.ride(0), 9999900);
        due("three seconds by 99, one by 1: would", x.would(0, 4), 99);
        due("a second by 99, drops", x.drive(0, 1), 1);
        due("ride(0)", x.ride(0), 9999999);
        due("two by 99, two by 1", x.drive(0, 4), 4);
        due("ride(0)", x.ride(0), MOST_FARE);
        due("ride(6)", x.ride(6), 5);
    }

    private static void dropsCountOn() {
        FareDrops x = nearTheMost(9999998);
        part("the fare stays at the most, and drops count on");
        int byWay = x.ride(5);
        due("by way so far", byWay, 9999 * 10 + 1009 + 1);
        due("drive(5, 1)", x.drive(5, 1), 5);
        due("ride(5)", x.ride(5), byWay + 5);
        due("ride(0)", x.ride(0), MOST_FARE);
        due("drive(0, 3)", x.drive(0, 3), 3);
        due("ride(6)", x.ride(6), 3);
        due("drive(9999, 9999)", x.drive(9999, 9999), 9999);
        due("ride(5)", x.ride(5), byWay + 5 + 9999);
        x.tariff(0, 999, 99, 100, 20);
        due("rests grow on", x.drive(0, 19), 0);
        due("ride(8)", x.ride(8), 1900);
        due("drive(0, 1)", x.drive(0, 1), 1);
        due("ride(6)", x.ride(6), 4);
        due("ride(2)", x.ride(2), 9999 * 10 + 1009 + 1 + 5 + 9999);
        x.end();
        due("log(0, 3)", x.log(0, 3), byWay + 5 + 9999 + 4);
    }

    private static void wouldStopsAtTheMost() {
        FareDrops x = nearTheMost();
        part("by how many coins the fare would grow below the most");
        due("one drop", x.would(1, 1), 99);
        due("two drops", x.would(2, 1), 99);
        due("many drops", x.would(9999, 9999), 99);
        x = nearTheMost(9999998);
        x.tariff(0, 999, 99, 1, 1);
        due("a drop", x.would(0, 1), 1);
        x = nearTheMost(9999999);
        due("a drop at the most", x.would(0, 1), 0);
        due("price() begins anew", x.price(1, 1), 1098);
    }

    private static void kindBySecondOfTheDrop() {
        FareDrops x = begin("a drop is by way, or by time, as the rest grew in its second");
        x.hire();
        x.drive(95, 1);
        due("by way so far", x.ride(8), 1900);
        due("a second by time", x.drive(4, 1), 1);
        rides(x, 32, 0, 99, 2, 0, 0, 1, 0, 0);
        x.drive(0, 19);
        due("a second by way", x.drive(5, 1), 1);
        rides(x, 34, 0, 104, 22, 0, 1, 1, 0, 0);
        x.drive(0, 19);
        due("many drops in a second by way", x.drive(300, 1), 3);
        rides(x, 40, 0, 404, 42, 0, 4, 1, 0, 1900);
        due("one by time then", x.drive(0, 1), 1);
        rides(x, 42, 0, 404, 43, 0, 4, 2, 0, 0);
        x.end();
        x.tariff(0, 0, 1, 2, 2);
        x.hire();
        due("seconds without and with a pulse in turn", x.drive(4, 8), 4);
        rides(x, 4, 0, 4, 8, 0, 4, 0, 0, 0);
        x.drive(0, 1);
        due("their drops one second on", x.drive(4, 8), 4);
        rides(x, 8, 0, 8, 17, 0, 4, 4, 0, 2);
    }

    /** A running meter in hour 1, whose rest of 100 * seconds is of tariff 0, of hour 0. */
    private static FareDrops withRest(int seconds) {
        FareDrops x = at(HOUR - seconds);
        x.hire();
        if (seconds > 0) {
            x.drive(0, seconds);
        }
        return x;
    }

    private static void restIsCarriedToAnotherTariff() {
        FareDrops x = withRest(19);
        part("another tariff than in the latest second: the rest is carried");
        x.hour(1, 1);
        due("1900 * 1800 / 2000 + 90 is a drop", x.drive(0, 1), 1);
        rides(x, 32, 0, 0, 20, 0, 0, 1, 0, 0);
        x = withRest(18);
        x.hour(1, 1);
        due("1800 * 1800 / 2000 + 90 is none", x.drive(0, 1), 0);
        due("ride(8)", x.ride(8), 1710);
        x = withRest(18);
        due("by the same tariff", x.drive(0, 1), 0);
        due("ride(8)", x.ride(8), 1900);
        x = at(HOUR - 19);
        x.hour(1, 1);
        x.hire();
        due("within one drive", x.drive(0, 19), 0);
        due("would", x.would(0, 1), 2);
        x.undo();
        due("within one drive", x.drive(0, 20), 1);
        due("ride(8)", x.ride(8), 0);
    }

    private static void restIsRoundedDown() {
        int[] to3 = {0, 0, 1, 1, 2, 2};
        int[] to7 = {2, 4};
        part("the rest is carried, rounded down");
        for (int rest = 1; rest <= 6; rest++) {
            carriedBetween(7, rest, 3, to3[rest - 1]);
        }
        for (int rest = 1; rest <= 2; rest++) {
            carriedBetween(3, rest, 7, to7[rest - 1]);
        }
        carriedBetween(999, 998, 1, 0);
        carriedBetween(999, 998, 998, 997);
        carriedBetween(998, 997, 999, 997);
        carriedBetween(500, 250, 999, 499);
        carriedBetween(500, 1, 499, 0);
        carriedBetween(500, 1, 500, 1);
        carriedBetween(500, 1, 999, 1);
    }

    /** With a way of 1, each second adds 1, and a drop takes as much as the time. */
    private static void carriedBetween(int time, int rest, int timeThen, int restThen) {
        FareDrops x = at(HOUR - rest);
        x.tariff(0, 0, 1, 1, time);
        x.tariff(1, 0, 1, 1, timeThen);
        x.hour(1, 1);
        x.hire();
        x.drive(0, rest);
        String call = rest + " of " + time + " to " + timeThen;
        due(call + ", ahead", x.ride(8), rest);
        due(call + ", drops", x.drive(0, 1), (restThen + 1) / timeThen);
        due(call, x.ride(8), (restThen + 1) % timeThen);
    }

    private static void restIsCarriedEachTime() {
        FareDrops x = at(HOUR - 1);
        part("the rest is carried whenever the tariff is another one");
        x.tariff(1, 0, 1, 1, 1);
        x.hour(1, 1);
        x.hire();
        due("there and back", x.drive(0, HOUR + 2), HOUR);
        due("nothing of the first second stays", x.ride(8), 100);

        x = at(HOUR - 1);
        x.tariff(0, 0, 1, 1, 7);
        x.tariff(1, 0, 1, 1, 5);
        x.tariff(2, 0, 1, 1, 3);
        x.hour(0, 0);
        x.hour(1, 1);
        x.hour(2, 2);
        x.hire();
        x.drive(0, 1);
        due("1 of 7", x.ride(8), 1);
        due("1 * 5 / 7 + 3600 = 3600", x.drive(0, HOUR), 720);
        due("3600 left over by 5", x.ride(8), 0);
        x.end();
        x.rest(HOUR - 3);
        x.hire();
        due("hour 2", x.drive(0, 2), 0);
        due("2 of 3", x.ride(8), 2);
        x.drive(0, 1);
        due("to 3 of 3", x.ride(8), 0);
    }

    private static void restOfTheFirstSecond() {
        FareDrops x = at(HOUR - 1);
        part("or than the one by which the fare began");
        x.hour(1, 1);
        due("hire()", x.hire(), 0);
        x.halt();
        x.rest(1);
        x.halt();
        due("drive(0, 1)", x.drive(0, 1), 0);
        due("the rest of 0 is carried as 0", x.ride(8), 90);
        x = at(HOUR - 1);
        x.hour(1, 1);
        x.hire();
        x.tariff(0, 30, 2, 999, 999);
        x.drive(0, 1);
        due("the rest of 0 stays 0", x.ride(8), 999);
        due("999 * 1800 / 998001 + 90", x.drive(0, 1), 0);
        due("ride(8)", x.ride(8), 91);
    }

    private static void haltsDoNotMatter() {
        FareDrops x = withRest(1);
        part("halts do not matter");
        x.tariff(1, 0, 1, 1, 1);
        x.tariff(2, 0, 1, 1, 3);
        x.hour(1, 1);
        x.hour(2, 0);
        x.hour(3, 2);
        x.halt();
        x.rest(HOUR);
        x.halt();
        x.drive(0, 1);
        due("a halt all through hour 1", x.ride(8), 200);
        x.halt();
        x.rest(2 * HOUR);
        x.halt();
        x.drive(0, 1);
        due("and through hour 3", x.ride(8), 300);
        x = withRest(1);
        x.tariff(1, 0, 1, 1, 1);
        x.hour(1, 1);
        x.halt();
        x.rest(HOUR - 1);
        x.halt();
        due("a halt up to the last second of hour 1", x.drive(0, 1), 1);
        due("ride(8)", x.ride(8), 0);
    }

    private static void restIsCarriedWhenWayOrTimeChange() {
        part("the way or the time of the tariff was changed meanwhile: the rest is carried");
        FareDrops x = withRest(19);
        x.tariff(0, 30, 2, 50, 20);
        due("the way: 950 + 50 is a drop", x.drive(0, 1), 1);
        due("ride(8)", x.ride(8), 0);
        x = withRest(19);
        x.tariff(0, 30, 2, 99, 20);
        due("the way by 1: 1881 + 99 is a drop", x.drive(0, 1), 1);
        due("ride(8)", x.ride(8), 0);
        x = withRest(19);
        x.tariff(0, 30, 2, 100, 10);
        due("the time: 950 + 100 is a drop", x.drive(0, 1), 1);
        due("ride(8)", x.ride(8), 50);
        x = withRest(19);
        x.tariff(0, 30, 2, 100, 21);
        due("the time by 1: 1995 + 100 is none", x.drive(0, 1), 0);
        due("ride(8)", x.ride(8), 2095);
        x = withRest(19);
        x.tariff(0, 30, 2, 20, 100);
        due("both, but way * time alike: 1900 + 20", x.drive(0, 1), 0);
        due("ride(8)", x.ride(8), 1920);
        x = withRest(19);
        x.tariff(0, 30, 2, 999, 999);
        x.tariff(0, 30, 2, 50, 20);
        due("twice: only the latest counts", x.drive(0, 1), 1);
        due("ride(8)", x.ride(8), 0);
    }

    private static void restStaysWhenOtherThingsChange() {
        part("only the way and the time of its tariff carry a rest");
        FareDrops x = withRest(1);
        x.tariff(0, 0, 99, 100, 20);
        x.tariff(1, 0, 99, 1, 1);
        x.tariff(2, 0, 99, 1, 1);
        x.priceOfExtra(99);
        x.hour(0, 1);
        x.hour(2, 1);
        x.drive(0, 1);
        due("ride(8)", x.ride(8), 200);
        x = withRest(1);
        x.tariff(0, 30, 2, 1, 1);
        x.tariff(0, 30, 2, 100, 20);
        x.drive(0, 1);
        due("changed and changed back", x.ride(8), 200);
        x = withRest(1);
        x.tariff(1, 30, 2, 100, 20);
        x.hour(1, 1);
        x.drive(0, 1);
        due("another one that is alike", x.ride(8), 200);
    }

    private static void restIsCarriedWhenTheHourChanges() {
        part("the tariff of a second is another one since its hour was changed");
        FareDrops x = withRest(19);
        x.hour(1, 1);
        due("drive(0, 1)", x.drive(0, 1), 1);
        due("ride(8)", x.ride(8), 0);
        x = withRest(1);
        x.tariff(1, 0, 1, 1, 1);
        x.hour(1, 1);
        x.hour(1, 0);
        x.drive(0, 1);
        due("changed and changed back", x.ride(8), 200);
    }

    private static void restIsCarriedFromAsTheyWere() {
        part("from way * time as they were");
        FareDrops x = withRest(19);
        x.tariff(0, 30, 2, 50, 20);
        x.hour(1, 1);
        due("1900 * 1800 / 2000 + 90", x.drive(0, 1), 1);
        due("ride(8)", x.ride(8), 0);
        x.drive(0, 1);
        x.tariff(1, 30, 2, 1, 1);
        x.hour(1, 0);
        due("90 * 1000 / 1800 + 50", x.drive(0, 1), 0);
        due("ride(8)", x.ride(8), 100);
        x = withRest(19);
        x.tariff(1, 30, 2, 9, 20);
        x.hour(1, 1);
        due("way * time of the tariff of now: 171 + 9", x.drive(0, 1), 1);
        due("ride(8)", x.ride(8), 0);
    }

    private static void restIsCarriedAheadOfItsSecond() {
        FareDrops x = withRest(19);
        part("the rest is carried ahead of that second");
        x.hour(1, 1);
        due("not when the hour begins", x.ride(8), 1900);
        x.halt();
        x.rest(9);
        x.halt();
        due("not by a halt", x.ride(8), 1900);
        x.would(0, 1);
        x.price(0, 1);
        due("not by a question", x.ride(8), 1900);
        x.tariff(1, 30, 2, 90, 999);
        due("not by a change", x.ride(8), 1900);
        x.tariff(1, 30, 2, 90, 20);
        x.drive(9999, 1);
        due("ahead of the second: 1710 + 199980 left over by 1800", x.ride(8), 90);
        x.tariff(1, 30, 2, 1, 1);
        x.end();
        due("not by the end", x.ride(8), 90);
    }

    private static void greatRestIsCarried() {
        part("rest * (way * time), as great as they can be");
        FareDrops x = new FareDrops();
        x.tariff(0, 999, 1, 999, 999);
        x.hire();
        due("drive(998, 1)", x.drive(998, 1), 0);
        due("ride(8)", x.ride(8), 997002);
        x.tariff(0, 999, 1, 998, 999);
        due("996004 + 998 is a drop", x.drive(0, 1), 1);
        due("ride(8)", x.ride(8), 0);
        x.drive(0, 998);
        due("ride(8)", x.ride(8), 996004);
        x.tariff(0, 999, 1, 999, 999);
        due("996004 * 998001 / 997002 + 999", x.drive(0, 1), 1);
        due("ride(8)", x.ride(8), 0);
        x.drive(0, 998);
        x.tariff(0, 999, 1, 1, 1);
        due("997002 / 998001 + 1", x.drive(0, 1), 1);
        due("ride(8)", x.ride(8), 0);
    }

    private static void restIsCarriedInWhatIfs() {
        part("the rest is carried in what is asked about, too");
        FareDrops x = withRest(19);
        x.hour(1, 1);
        due("would(0, 1)", x.would(0, 1), 2);
        x = withRest(18);
        x.hour(1, 1);
        due("would(0, 1)", x.would(0, 1), 0);
        x = at(HOUR - 19);
        x.hour(1, 1);
        due("price(0, 19)", x.price(0, 19), 30);
        due("price(0, 20)", x.price(0, 20), 32);
        due("farthest(20, 31)", x.farthest(20, 31), NONE);
        x = at(HOUR - 18);
        x.hour(1, 1);
        due("price(0, 19)", x.price(0, 19), 30);
        due("farthest(19, 31)", x.farthest(19, 31), 99);
        x.tariff(0, 0, 1, 999, 999);
        x.tariff(1, 0, 99, 1, 1);
        for (int hour = 0; hour < 24; hour++) {
            x.hour(hour, hour == 7 ? 0 : 1);
        }
        due("cheapest(0, 3601, 0)", x.cheapest(0, 3601, 0), 7);
        due("3, and 602397 * 1 / 998001 + 1", x.cheapest(0, 3601, 1), 102);
    }

    private static void restIsCarriedAcrossUndoAndRestore() {
        part("the latest second's way and time are undone and restored");
        FareDrops x = withRest(19);
        x.tariff(0, 30, 2, 1, 1);
        x.drive(0, 1);
        x.undo();
        x.undo();
        due("undone: 1900 + 100 is a drop", x.drive(0, 1), 1);
        due("ride(8)", x.ride(8), 0);
        x = withRest(19);
        x.save(0);
        x.tariff(0, 30, 2, 1, 1);
        x.drive(0, 1);
        x.restore(0);
        x.tariff(0, 30, 2, 50, 20);
        due("restored: 950 + 50 is a drop", x.drive(0, 1), 1);
        due("ride(8)", x.ride(8), 0);
    }

    private static void pulsesAreSpread() {
        part("behind k of s seconds there have been p * k / s pulses, rounded down");
        kindsOf(0, 1, 1, 0, 1);
        kindsOf(1, 1, 1, 1, 0);
        kindsOf(1, 2, 2, 1, 1);
        kindsOf(2, 3, 3, 2, 1);
        kindsOf(3, 3, 3, 3, 0);
        kindsOf(4, 3, 4, 4, 0);
        kindsOf(5, 9, 9, 5, 4);
        kindsOf(0, 9999, 9999, 0, 9999);
        kindsOf(1, 9999, 9999, 1, 9998);
        kindsOf(9998, 9999, 9999, 9998, 1);
        kindsOf(9999, 9999, 9999, 9999, 0);
        kindsOf(9999, 9998, 9999, 9999, 0);
        kindsOf(9999, 1, 9999, 9999, 0);
        kindsOf(9999, 5000, 9999, 9999, 0);
    }

    /** With way and time 1, a second has as many drops by way as pulses, or one by time if it has none. */
    private static void kindsOf(int pulses, int seconds, int drops, int byWay, int byTime) {
        FareDrops x = new FareDrops();
        x.tariff(0, 0, 1, 1, 1);
        x.hire();
        String call = pulses + " pulses in " + seconds + " seconds";
        due(call, x.drive(pulses, seconds), drops);
        due(call + ", by way", x.ride(5), byWay);
        due(call + ", by time", x.ride(6), byTime);
        due(call + ", pulses", x.ride(2), pulses);
    }

    private static void pulsesAreSpreadOverHours() {
        part("the pulses of a drive are spread over its seconds, also over hours");
        fareOf(HOUR - 1, 3, 2, 12);
        fareOf(HOUR - 1, 2, 2, 11);
        fareOf(HOUR - 1, 1, 2, 11);
        fareOf(HOUR - 1, 0, 2, 11);
        fareOf(HOUR - 2, 5, 3, 32);
        fareOf(HOUR - 1, 5, 3, 14);
        fareOf(HOUR - 3, 5, 3, 50);
        fareOf(HOUR - 1, 9999, 9999, 10 + 3600 + 6398 * 10);
        fareOf(HOUR - 1, 9999, 3, 3333 * 10 + 6666);
        fareOf(HOUR - 2, 9998, 3, 6665 * 10 + 3333);
    }

    /** Drops cost 10 coins in each hour but hour 1, where they cost 1; each second has one, or one for each pulse. */
    private static void fareOf(int second, int pulses, int seconds, int coins) {
        FareDrops x = at(second);
        x.tariff(0, 0, 10, 1, 1);
        x.tariff(1, 0, 1, 1, 1);
        x.hour(1, 1);
        String call = pulses + " pulses in " + seconds + " seconds at " + second;
        due("price of " + call, x.price(pulses, seconds), coins);
        x.hire();
        due("would of " + call, x.would(pulses, seconds), coins);
        x.drive(pulses, seconds);
        due("fare of " + call, x.ride(0), coins);
    }

    private static void pulsesOfEachDriveAreSpreadAnew() {
        FareDrops x = begin("the pulses of a drive are spread over its own seconds");
        x.tariff(0, 0, 1, 1, 1);
        x.hire();
        x.drive(1, 2);
        x.drive(1, 1);
        due("0, 1 and 1: by way", x.ride(5), 2);
        due("by time", x.ride(6), 1);
        x.drive(2, 3);
        due("0, 1, 1: by way", x.ride(5), 4);
        due("by time", x.ride(6), 2);
    }

    private static void nothingGrowsWhileItHalts() {
        FareDrops x = begin("while the meter halts, time goes by, and nothing grows");
        x.hire();
        x.drive(95, 1);
        x.halt();
        rides(x, 30, 0, 95, 1, 0, 0, 0, 0, 1900);
        due("rest(9999)", x.rest(9999), 10000);
        rides(x, 30, 0, 95, 1, 9999, 0, 0, 0, 1900);
        due("rest(1)", x.rest(1), 10001);
        rides(x, 30, 0, 95, 1, 10000, 0, 0, 0, 1900);
        x.halt();
        due("one second more", x.drive(0, 1), 1);
        due("ride(4)", x.ride(4), 10000);
    }

    private static void freeWhenTheRideEnds() {
        FareDrops x = begin("when the ride ends, the meter is free");
        x.hire();
        x.end();
        due("it ran", x.count(1), 0);
        due("hire()", x.hire(), 0);
        x.halt();
        x.end();
        due("it halted", x.count(1), 0);
        due("halt()", x.halt(), NOT_POSSIBLE);
        due("hire()", x.hire(), 0);
        due("it runs then", x.count(1), 1);
    }

    private static void latestTwelveRides() {
        part("the log has the latest 12 rides that ended");
        for (int rides : new int[] {0, 1, 11, 12, 13, 23, 24, 25, 100}) {
            FareDrops x = new FareDrops();
            for (int i = 1; i <= rides; i++) {
                x.hire();
                x.drive(i, 1);
                x.end();
            }
            int kept = Math.min(rides, 12);
            String call = "behind " + rides + " rides ";
            due(call + "count(6)", x.count(6), kept);
            due(call + "count(4)", x.count(4), rides);
            for (int ago = 0; ago < kept; ago++) {
                due(call + "log(" + ago + ", 1)", x.log(ago, 1), rides - ago);
            }
            due(call + "one more", x.log(kept, 1), NO_SUCH);
        }
    }

    // ---- texts

    private static void padOfEighty() {
        part("the pad is a text of at most 80 characters");
        for (int length = 72; length <= 80; length++) {
            FareDrops x = new FareDrops();
            write(x, "h;".repeat(40).substring(0, length));
            due(length + " characters", x.count(7), length);
            due("8 more", x.put(packed("h;h;h;h;")), length == 72 ? 80 : TOO_MANY);
            x.wipe();
            write(x, "h;".repeat(40).substring(0, length));
            due("1 more", x.put('s'), length < 80 ? length + 1 : TOO_MANY);
            due("then", x.count(7), Math.min(length + 1, 80));
        }
        FareDrops x = new FareDrops();
        write(x, "x;".repeat(39) + "w9");
        due("fault() of 80", x.fault(), NONE);
        x.wipe();
        write(x, "x;".repeat(39) + "xx");
        due("the fault at the last place", x.fault(), 79);
        x.wipe();
        write(x, "x;".repeat(40));
        due("the fault behind the last place", x.fault(), 80);
    }

    private static void textsOfOrders() {
        part("text = order { \";\" order }");
        faultOf("", 0);
        faultOf("h", NONE);
        faultOf("h;e", NONE);
        faultOf("h;", 2);
        faultOf(";", 0);
        faultOf(";h", 0);
        faultOf("h;;e", 2);
        faultOf("he", 1);
        faultOf("h,e", 1);
        faultOf("w1d2/3", 2);
        faultOf("d1/2w3", 4);
        faultOf("h;d1/2;w3;s;x;e", NONE);
    }

    private static void lettersOfOrders() {
        part("an order is \"h\", \"d\", \"w\", \"s\", \"x\" or \"e\"");
        for (char sign = 33; sign <= 126; sign++) {
            boolean begins = "hdwsxe".indexOf(sign) >= 0;
            FareDrops x = new FareDrops();
            x.put(sign);
            due(sign + " begins an order", x.fault() == 0 ? 0 : 1, begins ? 1 : 0);
        }
        FareDrops x = new FareDrops();
        order(x, "h", 1);
        due("h: hire()", x.count(1), 1);
        order(x, "x", 1);
        due("x: extra()", x.ride(7), 1);
        order(x, "d210/4", 1);
        due("d: pulses", x.ride(2), 210);
        due("d: seconds", x.ride(3), 4);
        order(x, "s", 1);
        due("s: halt()", x.count(1), 2);
        order(x, "w5", 1);
        due("w: rest()", x.ride(4), 5);
        order(x, "s", 1);
        due("s: halt()", x.count(1), 1);
        order(x, "e", 1);
        due("e: end()", x.count(4), 1);
        order(x, "w70", 1);
        due("w: rest()", x.count(0), 79);
    }

    private static void order(FareDrops x, String text, int carried) {
        write(x, text);
        due("carryOut() of " + text, x.carryOut(), carried);
    }

    private static void numbersOfOrders() {
        part("a number is 0 to 9999, without leading zeros");
        for (String before : new String[] {"w", "d", "d7/", "h;w", "d0/1;d"}) {
            String behind = before.endsWith("d") ? "/1" : "";
            int from = before.length();
            for (String number : new String[] {"0", "1", "9", "10", "99", "100", "999", "1000", "9999"}) {
                faultOf(before + number + behind, NONE);
            }
            for (String number : new String[] {"10000", "10001", "99990", "99999", "12345", "100000"}) {
                faultOf(before + number + behind, from + 4);
            }
            for (String number : new String[] {"00", "01", "09", "000", "0000", "00001"}) {
                faultOf(before + number + behind, from + 1);
            }
            for (String number : new String[] {"-1", "+1", ".5", "a", ";", "/"}) {
                faultOf(before + number + behind, from);
            }
            faultOf(before + "1.5" + behind, from + 1);
            faultOf(before, from);
        }
        FareDrops x = new FareDrops();
        order(x, "w9999", 1);
        due("w9999", x.count(0), 9999);
        order(x, "h;d9999/9999", 2);
        due("d9999/", x.ride(2), 9999);
        due("/9999", x.ride(3), 9999);
        order(x, "d0/1", 1);
        due("d0/1", x.ride(3), 10000);
        order(x, "d1000/1", 1);
        due("d1000/1", x.ride(2), 10999);
        order(x, "d1/0", 0);
        order(x, "s;w0", 1);
        due("count(0)", x.count(0), 20000);
    }

    private static void faultOfEachCharacter() {
        String digits = "0123456789";
        String letters = "hdwsxe";
        part("the first character that cannot stand at its place");
        for (String order : new String[] {"h", "s", "x", "e", "d1/0", "d0/9999", "d3/1000", "w0", "w9999", "w1000"}) {
            canStandBehind(order, ";", true);
            canStandBehind("h;" + order, ";", true);
            canStandBehind(order + ";", letters, false);
        }
        for (String order : new String[] {"w1", "w99", "w999", "d2/1", "d0/20", "d9999/999", "w8;w8"}) {
            canStandBehind(order, digits + ";", true);
            canStandBehind(order + ";", letters, false);
        }
        for (String order : new String[] {"d1", "d10", "d999", "w1;d5"}) {
            canStandBehind(order, digits + "/", false);
        }
        for (String order : new String[] {"d0", "d1000", "d9999", "e;d0"}) {
            canStandBehind(order, "/", false);
        }
        for (String order : new String[] {"d", "w", "d0/", "d9999/", "x;d", "d1/1;d7/", "d5/5;w"}) {
            canStandBehind(order, digits, false);
        }
        canStandBehind("", letters, false);
    }

    /** Tries each character behind a text, and whether the text may end there. */
    private static void canStandBehind(String text, String signs, boolean mayEnd) {
        faultOf(text, mayEnd ? NONE : text.length());
        for (char sign = 33; sign <= 126; sign++) {
            FareDrops x = new FareDrops();
            write(x, text + sign);
            int fault = x.fault();
            if (signs.indexOf(sign) < 0) {
                due("fault of " + text + sign, fault, text.length());
            } else {
                int end = text.length() + 1;
                due("fault of " + text + sign + " is " + fault + "; it can stand", fault == NONE || fault == end ? 1 : 0, 1);
            }
        }
    }

    private static void faultIsTheFirst() {
        part("the fault is the index of the first such character");
        faultOf("q;q", 0);
        faultOf("h;q;q", 2);
        faultOf("h;w10000;q", 7);
        faultOf("h;w10000", 7);
        faultOf("hq;", 1);
        faultOf("d/;;", 1);
        faultOf("w00;d", 2);
        faultOf("h;".repeat(39) + "q;", 78);
    }

    private static void faultOfTextThatEndsTooEarly() {
        part("if the text ends too early (also if it is empty), the fault is its length");
        faultOf("", 0);
        faultOf("d", 1);
        faultOf("w", 1);
        faultOf("d9", 2);
        faultOf("d9999", 5);
        faultOf("d9999/", 6);
        faultOf("e;", 2);
        faultOf("w1;", 3);
        faultOf("d1/1;d1/", 8);
        faultOf("h;".repeat(39) + "w", 79);
        faultOf("h;".repeat(40), 80);
        FareDrops x = new FareDrops();
        write(x, "h;e");
        x.wipe();
        due("emptied again", x.fault(), 0);
        write(x, "w");
        due("what was wiped is not read", x.fault(), 1);
    }

    private static void faultOf(String text, int fault) {
        FareDrops x = new FareDrops();
        write(x, text);
        due("fault of " + text, x.fault(), fault);
    }
}
