/** Each promise of the document by itself: ordinary inputs, the edges that it names, and wrong inputs. */
public final class PromisesTest extends Checks {
    public static void main(String[] args) {
        newObject();
        tariffIsChanged();
        tariffRefuses();
        hourIsChanged();
        priceOfExtraIsChanged();
        hireBegins();
        driveDrops();
        driveTellsKindsApart();
        driveSpreadsPulses();
        driveCarriesRests();
        driveGoesOverMidnight();
        driveStopsAtTheMostFare();
        driveRefuses();
        restPasses();
        haltTurns();
        extraIsTaken();
        endEnds();
        ofTariffTells();
        rideTells();
        logTells();
        logKeepsTwelve();
        countTells();
        wouldTells();
        priceTells();
        farthestFinds();
        farthestWhereMorePulsesCostLess();
        cheapestFinds();
        cheapestTriesEachHour();
        putAppends();
        putRefuses();
        wipeEmpties();
        faultIsFound();
        carryOutCarries();
        carryOutReadsEachOrder();
        undoUndoes();
        undoOfEachChange();
        undoKeepsSix();
        errorsRecordNothing();
        undoBringsAllBack();
        saveAndRestore();
        restoreBringsAllBack();
        close();
    }

    private static void newObject() {
        FareDrops x = begin("promise 1");
        counts(x, 0, 0, 0, 5, 0, 0, 0, 0, 0, BAD_VALUE);
        rides(x, 0, 0, 0, 0, 0, 0, 0, 0, 0, BAD_VALUE);
        tariffs(x, 0, 30, 2, 100, 20, 24);
        tariffs(x, 1, 30, 2, 90, 20, 0);
        tariffs(x, 2, 30, 2, 80, 20, 0);
        due("log(0, 0)", x.log(0, 0), NO_SUCH);
        due("fault()", x.fault(), 0);
        due("undo()", x.undo(), NOT_POSSIBLE);
        due("restore(0)", x.restore(0), NOT_POSSIBLE);
        due("restore(1)", x.restore(1), NOT_POSSIBLE);
    }

    private static void tariffIsChanged() {
        FareDrops x = begin("promise 2");
        due("tariff", x.tariff(1, 0, 1, 1, 1), 2);
        due("tariff", x.tariff(1, 999, 99, 999, 999), 1);
        due("tariff", x.tariff(2, 7, 8, 9, 10), 2);
        tariffs(x, 0, 30, 2, 100, 20, 24);
        tariffs(x, 1, 999, 99, 999, 999, 0);
        tariffs(x, 2, 7, 8, 9, 10, 0);
        due("count(8)", x.count(8), 3);
    }

    private static void tariffRefuses() {
        FareDrops x = begin("promise 2, wrong");
        due("no tariff", x.tariff(3, -1, 0, 0, 0), NO_SUCH);
        due("no tariff", x.tariff(-1, 0, 1, 1, 1), NO_SUCH);
        due("no tariff", x.tariff(LEAST, 0, 1, 1, 1), NO_SUCH);
        due("begin", x.tariff(0, 1000, 1, 1, 1), BAD_VALUE);
        due("begin", x.tariff(0, -1, 1, 1, 1), BAD_VALUE);
        due("drop", x.tariff(0, 0, 0, 1, 1), BAD_VALUE);
        due("drop", x.tariff(0, 0, 100, 1, 1), BAD_VALUE);
        due("way", x.tariff(0, 0, 1, 0, 1), BAD_VALUE);
        due("way", x.tariff(0, 0, 1, 1000, 1), BAD_VALUE);
        due("time", x.tariff(0, 0, 1, 1, 0), BAD_VALUE);
        due("time", x.tariff(0, 0, 1, 1, 1000), BAD_VALUE);
        due("time", x.tariff(0, 0, 1, 1, MOST), BAD_VALUE);
        tariffs(x, 0, 30, 2, 100, 20, 24);
        due("count(8)", x.count(8), 0);
    }

    private static void hourIsChanged() {
        FareDrops x = begin("promise 3");
        due("hour(23, 2)", x.hour(23, 2), 0);
        due("hour(23, 1)", x.hour(23, 1), 2);
        due("hour(0, 2)", x.hour(0, 2), 0);
        due("count(2)", x.count(2), 2);
        due("ofTariff(0, 4)", x.ofTariff(0, 4), 22);
        due("ofTariff(1, 4)", x.ofTariff(1, 4), 1);
        due("ofTariff(2, 4)", x.ofTariff(2, 4), 1);
        due("hour(0, 0)", x.hour(0, 0), 2);
        due("count(2)", x.count(2), 0);
        due("hour(24, 0)", x.hour(24, 0), NO_SUCH);
        due("hour(-1, 0)", x.hour(-1, 0), NO_SUCH);
        due("hour(0, 3)", x.hour(0, 3), NO_SUCH);
        due("hour(0, -1)", x.hour(0, -1), NO_SUCH);
        due("hour(most, least)", x.hour(MOST, LEAST), NO_SUCH);
        due("count(8)", x.count(8), 4);
    }

    private static void priceOfExtraIsChanged() {
        FareDrops x = begin("promise 4");
        due("priceOfExtra(99)", x.priceOfExtra(99), 5);
        x.hire();
        x.extra();
        due("priceOfExtra(0)", x.priceOfExtra(0), 99);
        due("priceOfExtra(-1)", x.priceOfExtra(-1), BAD_VALUE);
        due("priceOfExtra(100)", x.priceOfExtra(100), BAD_VALUE);
        due("count(3)", x.count(3), 0);
        due("ride(1)", x.ride(1), 99);
        x.extra();
        due("ride(1)", x.ride(1), 99);
        due("ride(7)", x.ride(7), 2);
    }

    private static void hireBegins() {
        FareDrops x = begin("promise 5");
        x.tariff(1, 77, 3, 10, 10);
        x.hour(2, 1);
        x.rest(7200);
        due("hire()", x.hire(), 1);
        rides(x, 77, 0, 0, 0, 0, 0, 0, 0, 0);
        due("count(1)", x.count(1), 1);
        due("hire()", x.hire(), NOT_POSSIBLE);
        x.halt();
        due("hire()", x.hire(), NOT_POSSIBLE);
        x.extra();
        x.rest(20);
        x.halt();
        x.drive(5, 13);
        x.end();
        due("hire()", x.hire(), 1);
        rides(x, 77, 0, 0, 0, 0, 0, 0, 0, 0);
    }

    private static void driveDrops() {
        FareDrops x = begin("promise 6");
        x.hire();
        due("drive(0, 19)", x.drive(0, 19), 0);
        rides(x, 30, 0, 0, 19, 0, 0, 0, 0, 1900);
        due("drive(0, 1)", x.drive(0, 1), 1);
        rides(x, 32, 0, 0, 20, 0, 0, 1, 0, 0);
        due("drive(99, 1)", x.drive(99, 1), 0);
        due("ride(8)", x.ride(8), 1980);
        due("drive(1000, 1)", x.drive(1000, 1), 10);
        rides(x, 52, 0, 1099, 22, 0, 10, 1, 0, 1980);
        due("drive(0, 9999)", x.drive(0, 9999), 500);
        due("ride(3)", x.ride(3), 10021);
        due("count(0)", x.count(0), 10021);
    }

    private static void driveTellsKindsApart() {
        FareDrops x = begin("promise 6, kinds");
        x.hire();
        due("both alike: by way", x.drive(100, 20), 1);
        rides(x, 32, 0, 100, 20, 0, 1, 0, 0, 0);
        x.tariff(0, 0, 1, 2, 1);
        due("one of each", x.drive(3, 2), 2);
        rides(x, 34, 0, 103, 22, 0, 2, 1, 0, 0);
        // the rest was gathered by time, but the second of the drop is by way
        x.tariff(0, 0, 1, 100, 20);
        x.drive(0, 19);
        due("by its second", x.drive(6, 1), 1);
        rides(x, 35, 0, 109, 42, 0, 3, 1, 0, 20);
    }

    private static void driveSpreadsPulses() {
        FareDrops x = begin("promise 6, spread");
        x.tariff(0, 0, 1, 2, 2);
        x.hire();
        // the first second has no pulse, the second has one
        due("drive(1, 2)", x.drive(1, 2), 1);
        due("ride(5)", x.ride(5), 1);
        due("ride(6)", x.ride(6), 0);
        // 0, 1, 1 pulses: 2 by time, 2 and 2 by way
        due("drive(2, 3)", x.drive(2, 3), 1);
        due("ride(5)", x.ride(5), 2);
        due("ride(6)", x.ride(6), 0);
        due("ride(8)", x.ride(8), 2);
    }

    private static void driveCarriesRests() {
        FareDrops x = begin("promise 6, rests");
        x.hour(1, 1);
        x.rest(3599);
        x.hire();
        x.drive(0, 1);
        due("rest in tariff 0", x.ride(8), 100);
        x.drive(0, 1);
        due("rest in tariff 1", x.ride(8), 180);
        x.tariff(1, 30, 2, 7, 11);
        due("not carried yet", x.ride(8), 180);
        x.drive(0, 1);
        due("180 * 77 / 1800 = 7", x.ride(8), 14);

        x = begin("promise 6, rests and halts");
        x.tariff(1, 0, 1, 1, 1);
        x.hour(1, 1);
        x.hire();
        x.drive(0, 19);
        x.halt();
        x.rest(7200);
        x.halt();
        due("a halt in tariff 1 does not matter", x.drive(0, 1), 1);
        due("ride(6)", x.ride(6), 1);
        due("ride(8)", x.ride(8), 0);

        x = begin("promise 6, rests and changes");
        x.hire();
        x.drive(0, 19);
        x.tariff(0, 30, 2, 1, 1);
        x.tariff(0, 30, 2, 100, 20);
        due("changed back meanwhile", x.drive(0, 1), 1);
        x.drive(0, 19);
        x.tariff(0, 30, 9, 999, 999);
        due("1900 * 998001 / 2000 = 948100", x.drive(0, 1), 0);
        due("ride(8)", x.ride(8), 949099);
        due("drops of the tariff of now", x.drive(0, 49), 1);
        due("ride(0)", x.ride(0), 41);
    }

    private static void driveGoesOverMidnight() {
        FareDrops x = begin("promise 6, midnight");
        x.tariff(2, 5, 7, 1, 1);
        x.hour(23, 2);
        waitFor(x, 86398);
        due("hire()", x.hire(), 2);
        due("drive(0, 12)", x.drive(0, 12), 2);
        rides(x, 19, 0, 0, 12, 0, 0, 2, 0, 1000);
        due("count(0)", x.count(0), 10);
        due("count(2)", x.count(2), 0);
        x.end();
        logs(x, 0, 19, 0, 12, 2, 86398, BAD_VALUE);
    }

    private static void driveStopsAtTheMostFare() {
        FareDrops x = begin("promise 6, the most fare");
        x.tariff(0, 999, 99, 1, 1);
        x.hire();
        for (int i = 0; i < 10; i++) {
            due("drive(9999, 1)", x.drive(9999, 1), 9999);
        }
        due("ride(0)", x.ride(0), 9900009);
        due("would(9999, 1)", x.would(9999, 1), 99990);
        due("drive(9999, 1)", x.drive(9999, 1), 9999);
        due("ride(0)", x.ride(0), 9999999);
        due("ride(5)", x.ride(5), 109989);
        due("would(9999, 9999)", x.would(9999, 9999), 0);
        x.extra();
        due("end()", x.end(), 10000004);
        due("count(5)", x.count(5), 4);
        due("log(0, 0)", x.log(0, 0), 10000004);
        due("log(0, 3)", x.log(0, 3), 109989);
    }

    private static void driveRefuses() {
        FareDrops x = begin("promise 6, wrong");
        due("value ahead of state", x.drive(-1, 1), BAD_VALUE);
        due("free", x.drive(1, 1), NOT_POSSIBLE);
        x.hire();
        due("pulses", x.drive(-1, 1), BAD_VALUE);
        due("pulses", x.drive(10000, 1), BAD_VALUE);
        due("seconds", x.drive(0, 0), BAD_VALUE);
        due("seconds", x.drive(0, 10000), BAD_VALUE);
        due("seconds", x.drive(0, LEAST), BAD_VALUE);
        due("edges", x.drive(9999, 9999), 499);
        x.halt();
        due("value ahead of state", x.drive(0, 0), BAD_VALUE);
        due("halts", x.drive(1, 1), NOT_POSSIBLE);
        due("count(0)", x.count(0), 9999);
        due("count(8)", x.count(8), 3);
    }

    private static void restPasses() {
        FareDrops x = begin("promise 7");
        due("rest(1)", x.rest(1), 1);
        due("rest(9999)", x.rest(9999), 10000);
        due("rest(0)", x.rest(0), BAD_VALUE);
        due("rest(10000)", x.rest(10000), BAD_VALUE);
        due("rest(-1)", x.rest(-1), BAD_VALUE);
        x.hire();
        due("runs", x.rest(1), NOT_POSSIBLE);
        due("value ahead of state", x.rest(0), BAD_VALUE);
        x.halt();
        due("halts", x.rest(5), 10005);
        rides(x, 30, 0, 0, 0, 5, 0, 0, 0, 0);
        due("halts", x.rest(2), 10007);
        due("ride(4)", x.ride(4), 7);
        x.end();
        due("free", x.rest(6), 10013);
        due("ride(4)", x.ride(4), 7);
        waitFor(x, 76386);
        due("the last second", x.count(0), 86399);
        due("midnight", x.rest(1), 0);
    }

    private static void haltTurns() {
        FareDrops x = begin("promise 8");
        due("free", x.halt(), NOT_POSSIBLE);
        x.hire();
        due("halts", x.halt(), 2);
        due("count(1)", x.count(1), 2);
        due("runs on", x.halt(), 1);
        due("count(1)", x.count(1), 1);
        x.end();
        due("free", x.halt(), NOT_POSSIBLE);
        due("count(1)", x.count(1), 0);
    }

    private static void extraIsTaken() {
        FareDrops x = begin("promise 9");
        due("free", x.extra(), NOT_POSSIBLE);
        x.hire();
        x.priceOfExtra(3);
        due("extra()", x.extra(), 1);
        x.halt();
        x.priceOfExtra(10);
        due("extra()", x.extra(), 2);
        due("ride(1)", x.ride(1), 13);
        due("ride(0)", x.ride(0), 30);
        for (int i = 3; i <= 9; i++) {
            due("extra()", x.extra(), i);
        }
        due("ten", x.extra(), TOO_MANY);
        due("ride(1)", x.ride(1), 83);
        due("ride(7)", x.ride(7), 9);
        x.end();
        due("free", x.extra(), NOT_POSSIBLE);
    }

    private static void endEnds() {
        FareDrops x = begin("promise 10");
        due("free", x.end(), NOT_POSSIBLE);
        x.hire();
        x.extra();
        x.drive(200, 1);
        x.halt();
        due("end()", x.end(), 39);
        due("free", x.end(), NOT_POSSIBLE);
        counts(x, 1, 0, 0, 5, 1, 39, 1, 0, 5);
        rides(x, 34, 5, 200, 1, 0, 2, 0, 1, 0);
        x.hire();
        due("end()", x.end(), 30);
        due("count(4)", x.count(4), 2);
        due("count(5)", x.count(5), 69);
    }

    private static void ofTariffTells() {
        FareDrops x = begin("promise 11");
        due("ofTariff(3, 9)", x.ofTariff(3, 9), NO_SUCH);
        due("ofTariff(-1, 0)", x.ofTariff(-1, 0), NO_SUCH);
        due("ofTariff(0, 5)", x.ofTariff(0, 5), BAD_VALUE);
        due("ofTariff(2, -1)", x.ofTariff(2, -1), BAD_VALUE);
        due("ofTariff(most, most)", x.ofTariff(MOST, MOST), NO_SUCH);
        for (int hour = 0; hour < 24; hour++) {
            x.hour(hour, 2);
        }
        due("ofTariff(0, 4)", x.ofTariff(0, 4), 0);
        due("ofTariff(2, 4)", x.ofTariff(2, 4), 24);
    }

    private static void rideTells() {
        FareDrops x = begin("promise 12");
        x.hire();
        x.drive(250, 3);
        x.drive(0, 37);
        x.extra();
        x.halt();
        x.rest(11);
        rides(x, 38, 5, 250, 40, 11, 2, 2, 1, 700, BAD_VALUE);
        x.end();
        x.rest(100);
        x.tariff(0, 1, 1, 1, 1);
        rides(x, 38, 5, 250, 40, 11, 2, 2, 1, 700, BAD_VALUE);
        due("ride(-1)", x.ride(-1), BAD_VALUE);
        due("ride(least)", x.ride(LEAST), BAD_VALUE);
    }

    private static void logTells() {
        FareDrops x = begin("promise 13");
        due("log(0, 9)", x.log(0, 9), NO_SUCH);
        x.rest(500);
        x.hire();
        x.drive(300, 10);
        x.drive(0, 20);
        x.halt();
        x.rest(70);
        x.extra();
        due("goes on", x.log(0, 0), NO_SUCH);
        x.end();
        x.hire();
        x.end();
        logs(x, 0, 30, 0, 0, 0, 600, BAD_VALUE);
        logs(x, 1, 43, 300, 100, 4, 500, BAD_VALUE);
        due("log(2, 0)", x.log(2, 0), NO_SUCH);
        due("log(-1, 0)", x.log(-1, 0), NO_SUCH);
        due("log(least, 0)", x.log(LEAST, 0), NO_SUCH);
        due("log(2, 5)", x.log(2, 5), NO_SUCH);
        due("log(1, -1)", x.log(1, -1), BAD_VALUE);
    }

    private static void logKeepsTwelve() {
        FareDrops x = begin("promise 13, twelve");
        for (int i = 1; i <= 14; i++) {
            x.tariff(0, i, 2, 100, 20);
            x.hire();
            x.drive(i, 1);
            x.end();
            due("count(6)", x.count(6), Math.min(i, 12));
        }
        for (int ago = 0; ago < 12; ago++) {
            logs(x, ago, 14 - ago, 14 - ago, 1, 0, 13 - ago);
        }
        due("log(12, 0)", x.log(12, 0), NO_SUCH);
        due("count(4)", x.count(4), 14);
        due("count(5)", x.count(5), 105);
    }

    private static void countTells() {
        FareDrops x = begin("promise 14");
        x.hour(1, 2);
        x.priceOfExtra(9);
        x.hire();
        x.end();
        x.rest(3600);
        x.hire();
        x.halt();
        write(x, "h;x");
        counts(x, 3600, 2, 2, 9, 1, 30, 1, 3, 6, BAD_VALUE);
        due("count(-1)", x.count(-1), BAD_VALUE);
        due("count(most)", x.count(MOST), BAD_VALUE);
    }

    private static void wouldTells() {
        FareDrops x = begin("promise 15");
        due("value ahead of state", x.would(10000, 1), BAD_VALUE);
        due("free", x.would(1, 1), NOT_POSSIBLE);
        x.tariff(1, 0, 9, 10, 10);
        x.hour(1, 1);
        x.rest(3590);
        x.hire();
        x.drive(0, 5);
        due("would(0, 5)", x.would(0, 5), 0);
        // 1000 of 2000 is carried as 50 of 100: 10 more a second
        due("would(0, 9)", x.would(0, 9), 0);
        due("would(0, 10)", x.would(0, 10), 9);
        due("would(1000, 1)", x.would(1000, 1), 20);
        due("nothing changes", x.ride(8), 500);
        due("nothing changes", x.ride(0), 30);
        due("nothing changes", x.count(0), 3595);
        due("drive(0, 10)", x.drive(0, 10), 1);
        due("ride(0)", x.ride(0), 39);
        due("would(0, 0)", x.would(0, 0), BAD_VALUE);
        due("would(-1, 1)", x.would(-1, 1), BAD_VALUE);
        due("would(0, 10000)", x.would(0, 10000), BAD_VALUE);
        x.halt();
        due("halts", x.would(1, 1), NOT_POSSIBLE);
    }

    private static void priceTells() {
        FareDrops x = begin("promise 16");
        due("price(0, 1)", x.price(0, 1), 30);
        due("price(9999, 9999)", x.price(9999, 9999), 1028);
        due("price(10000, 1)", x.price(10000, 1), BAD_VALUE);
        due("price(-1, 1)", x.price(-1, 1), BAD_VALUE);
        due("price(0, 0)", x.price(0, 0), BAD_VALUE);
        due("price(0, 10000)", x.price(0, 10000), BAD_VALUE);
        x.tariff(1, 7, 50, 1, 1);
        x.hour(1, 1);
        x.hire();
        x.drive(0, 3599);
        due("over the hour", x.price(0, 2), 80);
        x.extra();
        x.halt();
        x.rest(1);
        due("in the hour", x.price(0, 2), 107);
        due("no rest of the ride", x.price(5, 1), 257);
        due("nothing changes", x.ride(0), 388);
        due("nothing changes", x.count(1), 2);
    }

    private static void farthestFinds() {
        FareDrops x = begin("promise 17");
        due("farthest(1, 30)", x.farthest(1, 30), 99);
        due("farthest(1, 31)", x.farthest(1, 31), 99);
        due("farthest(1, 32)", x.farthest(1, 32), 199);
        due("farthest(1, 29)", x.farthest(1, 29), NONE);
        due("farthest(1, 0)", x.farthest(1, 0), NONE);
        due("farthest(1, most)", x.farthest(1, MOST), 999);
        due("farthest(1, 48)", x.farthest(1, 48), 999);
        due("farthest(1, 47)", x.farthest(1, 47), 899);
        due("farthest(999, 128)", x.farthest(999, 128), 999);
        due("farthest(999, 127)", x.farthest(999, 127), NONE);
        due("farthest(0, 5)", x.farthest(0, 5), BAD_VALUE);
        due("farthest(1000, 5)", x.farthest(1000, 5), BAD_VALUE);
        due("farthest(1, -1)", x.farthest(1, -1), BAD_VALUE);
        due("farthest(least, least)", x.farthest(LEAST, LEAST), BAD_VALUE);
        x.tariff(0, 0, 1, 1, 1);
        due("farthest(1, 0)", x.farthest(1, 0), NONE);
        due("farthest(1, 1)", x.farthest(1, 1), 1);
        x.tariff(0, 0, 1, 1, 20);
        due("none but 0", x.farthest(1, 0), 0);
        due("none but 0 and 1", x.farthest(1, 1), 1);
    }

    private static void farthestWhereMorePulsesCostLess() {
        FareDrops x = begin("promise 17, more pulses for less");
        x.tariff(0, 0, 1, 100, 10);
        x.tariff(1, 0, 99, 100, 10);
        x.hour(1, 1);
        x.rest(3592);
        due("price(0, 9)", x.price(0, 9), 0);
        due("price(107, 9)", x.price(107, 9), 99);
        due("price(120, 9)", x.price(120, 9), 1);
        due("price(799, 9)", x.price(799, 9), 7);
        due("price(800, 9)", x.price(800, 9), 106);
        due("farthest(9, 50)", x.farthest(9, 50), 799);
        x = begin("promise 17, more with 0");
        x.tariff(0, 0, 1, 100, 10);
        x.tariff(1, 0, 99, 100, 10);
        x.hour(1, 1);
        x.rest(3591);
        due("price(0, 10)", x.price(0, 10), 99);
        due("price(115, 10)", x.price(115, 10), 1);
        due("farthest(10, 50)", x.farthest(10, 50), NONE);
    }

    private static void cheapestFinds() {
        FareDrops x = begin("promise 18");
        due("all alike", x.cheapest(100, 20, 0), 0);
        due("all alike", x.cheapest(100, 20, 1), 32);
        x.tariff(1, 10, 2, 100, 20);
        x.tariff(2, 90, 1, 100, 20);
        x.hour(5, 1);
        x.hour(7, 1);
        x.hour(0, 2);
        due("of two the lowest", x.cheapest(0, 1, 0), 5);
        due("of two the lowest", x.cheapest(0, 1, 1), 10);
        x.tariff(0, 30, 99, 100, 20);
        x.hour(8, 1);
        due("the hours behind it count", x.cheapest(0, 7200, 0), 7);
        due("the hours behind it count", x.cheapest(0, 7200, 1), 730);
        x.hour(23, 2);
        x.hour(1, 2);
        due("over midnight", x.cheapest(9999, 9999, 0), 23);
        x.rest(7777);
        x.hire();
        due("whatever the meter does", x.cheapest(0, 1, 0), 5);
        due("nothing changes", x.count(0), 7777);
        due("cheapest(0, 1, 2)", x.cheapest(0, 1, 2), BAD_VALUE);
        due("cheapest(0, 1, -1)", x.cheapest(0, 1, -1), BAD_VALUE);
        due("cheapest(0, 0, 0)", x.cheapest(0, 0, 0), BAD_VALUE);
        due("cheapest(0, 10000, 0)", x.cheapest(0, 10000, 0), BAD_VALUE);
        due("cheapest(-1, 1, 0)", x.cheapest(-1, 1, 0), BAD_VALUE);
        due("cheapest(10000, 1, 0)", x.cheapest(10000, 1, 0), BAD_VALUE);
    }

    private static void cheapestTriesEachHour() {
        FareDrops x = begin("promise 18, each hour");
        x.tariff(0, 0, 2, 100, 20);
        x.tariff(1, 40, 2, 100, 20);
        x.tariff(2, 39, 2, 100, 20);
        for (int hour = 0; hour < 24; hour++) {
            x.hour(hour, 1);
        }
        due("all hours have tariff 1", x.cheapest(0, 1, 1), 40);
        for (int hour = 23; hour >= 0; hour--) {
            x.hour(hour, 2);
            due("the lowest with tariff 2", x.cheapest(0, 1, 0), hour);
            due("the lowest with tariff 2", x.cheapest(0, 1, 1), 39);
        }
        x.tariff(1, 999, 99, 1, 1);
        x.hour(1, 1);
        x.hour(23, 1);
        due("hour 0 from its first second on", x.cheapest(0, 3600, 0), 0);
        due("not a second of hour 1", x.cheapest(0, 3600, 1), 399);
    }

    private static void putAppends() {
        FareDrops x = begin("promise 19");
        due("one", x.put('h'), 1);
        due("in order", x.put(packed(";d12/3")), 7);
        due("fault()", x.fault(), NONE);
        due("eight", x.put(packed("!~!~!~!~")), 15);
        for (int i = 2; i < 10; i++) {
            due("eight", x.put(packed("abcdefgh")), 7 + 8 * i);
        }
        due("ten would be 81", x.put(packed("12")), TOO_MANY);
        due("BAD_VALUE is first", x.put(packed("1 ")), BAD_VALUE);
        due("80", x.put(packed("1")), 80);
        due("81", x.put(packed("1")), TOO_MANY);
        due("count(7)", x.count(7), 80);
        due("is no change", x.count(8), 0);
        due("undo()", x.undo(), NOT_POSSIBLE);
    }

    private static void putRefuses() {
        FareDrops x = begin("promise 19, wrong");
        due("no character", x.put(0), BAD_VALUE);
        due("255", x.put(-1L), BAD_VALUE);
        due("32", x.put(32), BAD_VALUE);
        due("127", x.put(127), BAD_VALUE);
        due("128", x.put(128), BAD_VALUE);
        due("33", x.put(33), 1);
        due("126", x.put(126), 2);
        due("a bit above", x.put((1L << 16) + 'h'), BAD_VALUE);
        due("a bit above", x.put((1L << 63) + 'h'), BAD_VALUE);
        due("a character above", x.put(((long) 'h' << 16) + 'h'), BAD_VALUE);
        due("0 is the last", x.put((long) 'h' << 8), BAD_VALUE);
        due("the first is 32", x.put(packed(" hhhhhhh")), BAD_VALUE);
        due("the first is 127", x.put(packed("\u007fhhhhhhh")), BAD_VALUE);
        due("the first is 232", x.put(packed("hhhhhhhh") | 1L << 63), BAD_VALUE);
        due("least", x.put(Long.MIN_VALUE), BAD_VALUE);
        due("count(7)", x.count(7), 2);
    }

    private static void wipeEmpties() {
        FareDrops x = begin("promise 20");
        due("wipe()", x.wipe(), 0);
        write(x, "h;d1/1;e");
        due("wipe()", x.wipe(), 8);
        due("wipe()", x.wipe(), 0);
        due("count(7)", x.count(7), 0);
        due("fault()", x.fault(), 0);
        due("is no change", x.count(8), 0);
        due("put anew", x.put('e'), 1);
        due("fault()", x.fault(), NONE);
    }

    private static void faultIsFound() {
        faultOf("", 0);
        faultOf("h", NONE);
        faultOf("h;", 2);
        faultOf(";", 0);
        faultOf("hh", 1);
        faultOf("h;;h", 2);
        faultOf("q", 0);
        faultOf("H", 0);
        faultOf("s;x;e;h", NONE);
        faultOf("d", 1);
        faultOf("d/", 1);
        faultOf("d;", 1);
        faultOf("d0", 2);
        faultOf("d0/", 3);
        faultOf("d0/;", 3);
        faultOf("d0;", 2);
        faultOf("d0/0", NONE);
        faultOf("d0/0/", 4);
        faultOf("d00/1", 2);
        faultOf("d1/01", 4);
        faultOf("d9999/9999", NONE);
        faultOf("d99990/1", 5);
        faultOf("d10000/1", 5);
        faultOf("d1/10000", 7);
        faultOf("d1/1;", 5);
        faultOf("d1/1d", 4);
        faultOf("d-1/1", 1);
        faultOf("w", 1);
        faultOf("w;", 1);
        faultOf("w0", NONE);
        faultOf("w05", 2);
        faultOf("w9999", NONE);
        faultOf("w12345;q", 5);
        faultOf("w5/5", 2);
        faultOf("h1", 1);
        faultOf("x;s/", 3);
        faultOf("e;w1;d2/3;q", 10);
        faultOf("1", 0);
        faultOf("d1:2", 2);
    }

    private static void faultOf(String text, int fault) {
        FareDrops x = begin("promise 21");
        write(x, text);
        due("fault of " + text, x.fault(), fault);
        due("the pad stays", x.count(7), text.length());
        due("carryOut() of " + text, x.carryOut() == BAD_TEXT ? 1 : 0, fault == NONE ? 0 : 1);
    }

    private static void carryOutCarries() {
        FareDrops x = begin("promise 22");
        write(x, "h;d50/5;q");
        due("fault", x.carryOut(), BAD_TEXT);
        due("it stays", x.count(7), 9);
        due("nothing was done", x.count(1), 0);
        due("no change", x.count(8), 0);
        x.wipe();
        due("empty", x.carryOut(), BAD_TEXT);
        write(x, "h;d500/60;s;w50;s;x;d20/9;e");
        due("all", x.carryOut(), 8);
        counts(x, 119, 0, 0, 5, 1, 45, 1, 0, 1);
        logs(x, 0, 45, 520, 119, 5, 0);
        write(x, "h;x;h;x;x");
        due("up to the error", x.carryOut(), 2);
        due("ride(7)", x.ride(7), 1);
        due("emptied", x.count(7), 0);
        due("one change", x.count(8), 2);
        write(x, "h");
        due("none", x.carryOut(), 0);
        due("emptied", x.count(7), 0);
        due("a change", x.count(8), 3);
        due("undo()", x.undo(), 2);
        due("undo()", x.undo(), 1);
        due("count(1)", x.count(1), 0);
        due("the pad is not undone", x.count(7), 0);
    }

    private static void carryOutReadsEachOrder() {
        FareDrops x = begin("promise 22, orders");
        write(x, "w9999");
        due("w9999", x.carryOut(), 1);
        due("count(0)", x.count(0), 9999);
        write(x, "h;d1234/56;d7/8");
        due("numbers", x.carryOut(), 3);
        due("ride(2)", x.ride(2), 1241);
        due("ride(3)", x.ride(3), 64);
        write(x, "d0/0;s");
        due("no second", x.carryOut(), 0);
        write(x, "s;w0;e");
        due("no second", x.carryOut(), 1);
        due("count(1)", x.count(1), 2);
        write(x, "d1/1;e");
        due("halts", x.carryOut(), 0);
        write(x, "x;x;x;x;x;x;x;x;x;x;e");
        due("ten extras", x.carryOut(), 9);
        due("count(1)", x.count(1), 2);
        write(x, "h;h;h;h;h;h;h;h;h;h;h;h;h;h;h;h;h;h;h;h;h;h;h;h;h;h;h;h;h;h;h;h;h;h;h;h;h;h;h;h");
        due("79 characters", x.count(7), 79);
        due("fault()", x.fault(), NONE);
        due("carryOut()", x.carryOut(), 0);
        write(x, "e;h;e;h;e;h;e;h;e;h;e;h;e;h;e;h;e;h;e;h;e;h;e;h;e;h;e;h;e;h;e;h;e;h;e;h;e;h;w10");
        due("79 characters", x.count(7), 79);
        due("carryOut()", x.carryOut(), 38);
        due("count(4)", x.count(4), 19);
    }

    private static void undoUndoes() {
        FareDrops x = begin("promise 23");
        due("none", x.undo(), NOT_POSSIBLE);
        x.hire();
        x.drive(150, 7);
        x.extra();
        x.end();
        due("end", x.undo(), 3);
        counts(x, 7, 1, 0, 5, 0, 0, 0, 0, 3);
        rides(x, 32, 5, 150, 7, 0, 1, 0, 1, 1000);
        due("log(0, 0)", x.log(0, 0), NO_SUCH);
        due("extra", x.undo(), 2);
        rides(x, 32, 0, 150, 7, 0, 1, 0, 0, 1000);
        due("drive", x.undo(), 1);
        rides(x, 30, 0, 0, 0, 0, 0, 0, 0, 0);
        due("count(0)", x.count(0), 0);
        due("hire", x.undo(), 0);
        rides(x, 0, 0, 0, 0, 0, 0, 0, 0, 0);
        due("count(1)", x.count(1), 0);
        due("none", x.undo(), NOT_POSSIBLE);
    }

    private static void undoOfEachChange() {
        FareDrops x = begin("promise 23, each");
        x.tariff(1, 9, 8, 7, 6);
        x.undo();
        tariffs(x, 1, 30, 2, 90, 20, 0);
        x.hour(0, 1);
        x.undo();
        due("hour", x.count(2), 0);
        x.priceOfExtra(50);
        x.undo();
        due("priceOfExtra", x.count(3), 5);
        x.rest(55);
        x.undo();
        due("rest", x.count(0), 0);
        x.hire();
        x.halt();
        x.undo();
        due("halt", x.count(1), 1);
        x.end();
        x.rest(9);
        x.hire();
        due("hire", x.undo(), 3);
        due("hire", x.count(1), 0);
        due("hire", x.count(0), 9);
        x.hire();
        write(x, "e");
        x.save(0);
        x.carryOut();
        x.restore(0);
        due("restore", x.count(1), 1);
        due("of restore", x.undo(), 5);
        due("restore", x.count(1), 0);
        due("the slot stays", x.restore(0), 1);
        due("count(1)", x.count(1), 1);
        write(x, "x");
        x.undo();
        due("the pad stays", x.count(7), 1);
        due("carryOut", x.undo(), 4);
        due("carryOut", x.count(1), 1);
    }

    private static void undoKeepsSix() {
        FareDrops x = begin("promise 23, six");
        for (int i = 1; i <= 9; i++) {
            x.rest(i);
            due("count(8)", x.count(8), Math.min(i, 6));
        }
        int second = 45;
        for (int i = 9; i >= 4; i--) {
            second -= i;
            due("undo()", x.undo(), i - 4);
            due("count(0)", x.count(0), second);
        }
        due("none", x.undo(), NOT_POSSIBLE);
        due("count(0)", x.count(0), 6);
        x.priceOfExtra(5);
        due("nothing is different, but recorded", x.count(8), 1);
        due("undo()", x.undo(), 0);
    }

    private static void errorsRecordNothing() {
        FareDrops x = begin("promise 23, errors");
        x.rest(1);
        x.tariff(3, 0, 1, 1, 1);
        x.hour(24, 0);
        x.priceOfExtra(-1);
        x.drive(1, 1);
        x.rest(0);
        x.halt();
        x.extra();
        x.end();
        x.carryOut();
        x.restore(1);
        x.save(0);
        x.put('q');
        x.wipe();
        x.price(1, 1);
        x.would(1, 1);
        x.cheapest(1, 1, 0);
        x.farthest(1, 50);
        due("count(8)", x.count(8), 1);
        x.hire();
        x.hire();
        due("count(8)", x.count(8), 2);
        due("undo()", x.undo(), 1);
        due("undo()", x.undo(), 0);
        due("count(0)", x.count(0), 0);
    }

    /** A meter that has something other than at first in all that it keeps; rides end, and one goes on. */
    private static FareDrops used(int rides) {
        FareDrops x = new FareDrops();
        x.tariff(0, 40, 3, 50, 10);
        x.tariff(1, 41, 4, 51, 11);
        x.hour(2, 1);
        x.priceOfExtra(6);
        for (int i = 0; i < rides; i++) {
            x.rest(10 + i);
            x.hire();
            x.extra();
            x.drive(100 + i, 3);
            x.drive(0, 30 + i);
            x.halt();
            x.rest(20 + i);
            x.end();
        }
        x.rest(7);
        x.hire();
        x.extra();
        x.drive(77, 1);
        x.drive(0, 13);
        x.halt();
        x.rest(5);
        x.halt();
        return x;
    }

    /** Ends the ride and makes another, otherwise than used() would go on. */
    private static void goAnotherWay(FareDrops x) {
        x.drive(500, 40);
        x.halt();
        x.rest(400);
        x.end();
        x.tariff(0, 1, 1, 7, 9);
        x.tariff(1, 2, 2, 8, 8);
        x.tariff(2, 3, 3, 9, 7);
        x.hour(2, 2);
        x.priceOfExtra(1);
        x.hire();
        x.extra();
        x.extra();
        x.drive(9, 9);
        x.end();
        x.hire();
        x.end();
    }

    private static void undoBringsAllBack() {
        String before = seen(used(13));
        for (int change = 0; change < 9; change++) {
            part("promise 23, all of it, " + change);
            FareDrops x = used(13);
            if (change == 0) {
                x.tariff(0, 1, 1, 1, 1);
            } else if (change == 1) {
                x.hour(2, 2);
            } else if (change == 2) {
                x.priceOfExtra(77);
            } else if (change == 3) {
                x.drive(300, 20);
            } else if (change == 4) {
                x.halt();
            } else if (change == 5) {
                x.extra();
            } else if (change == 6) {
                x.end();
            } else if (change == 7) {
                write(x, "d5/50;x;s;w5;e;h;e;h;d5/500;e;h");
                x.carryOut();
            } else {
                x.end();
                x.hire();
                x.undo();
            }
            same("other", seen(x).equals(before) ? "alike " : "other ", "other ");
            x.undo();
            same("undo", seen(x), before);
        }
    }

    private static void restoreBringsAllBack() {
        for (int rides = 2; rides < 16; rides += 4) {
            part("promises 24, 25, all of it, " + rides);
            FareDrops x = used(rides);
            String before = seen(x);
            x.save(1);
            goAnotherWay(x);
            same("other", seen(x).equals(before) ? "alike " : "other ", "other ");
            x.restore(1);
            same("restore", seen(x), before);
            FareDrops y = used(rides);
            x.tariff(0, 40, 3, 500, 10);
            y.tariff(0, 40, 3, 500, 10);
            due("the rest is carried as ever", x.drive(0, 9), y.drive(0, 9));
            x.end();
            y.end();
            same("it goes on as ever", seen(x), seen(y));
        }
    }

    private static void saveAndRestore() {
        FareDrops x = begin("promises 24, 25");
        due("save(-1)", x.save(-1), BAD_VALUE);
        due("save(2)", x.save(2), BAD_VALUE);
        due("restore(-1)", x.restore(-1), BAD_VALUE);
        due("restore(2)", x.restore(2), BAD_VALUE);
        x.tariff(2, 1, 2, 3, 4);
        x.hour(3, 2);
        x.hire();
        x.end();
        x.hire();
        x.drive(110, 3);
        x.extra();
        due("save(1)", x.save(1), 1);
        due("is no change", x.count(8), 6);
        due("nothing was saved", x.restore(0), NOT_POSSIBLE);
        x.end();
        x.tariff(2, 9, 9, 9, 9);
        x.hour(3, 0);
        x.priceOfExtra(1);
        x.rest(100);
        write(x, "h");
        due("restore(1)", x.restore(1), 1);
        counts(x, 3, 1, 0, 5, 1, 30, 1, 1, 6);
        rides(x, 32, 5, 110, 3, 0, 1, 0, 1, 200);
        tariffs(x, 2, 1, 2, 3, 4, 1);
        due("log(1, 0)", x.log(1, 0), NO_SUCH);
        x.end();
        due("save(0)", x.save(0), 2);
        due("save(1)", x.save(1), 2);
        due("restore(0)", x.restore(0), 2);
        x.rest(9);
        due("overwritten", x.restore(1), 2);
        due("count(0)", x.count(0), 3);
        due("log(0, 0)", x.log(0, 0), 37);
        x.rest(9);
        due("the slot keeps it", x.restore(1), 2);
        due("count(0)", x.count(0), 3);
        due("a change", x.undo(), 5);
        due("count(0)", x.count(0), 12);
    }
}
