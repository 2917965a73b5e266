/** Each sentence of promises 19 to 25 that names a boundary, with a test of its own: the last allowed, the first not. */
public final class BoundariesOfTextsAndUndoTest extends Checks {
    public static void main(String[] args) {
        putOneToEight();
        putCodes();
        putBitsAbove();
        putTooMany();
        putOrder();
        wipeReturnsLength();
        faultOrNone();
        carryOutBadText();
        carryOutUpToTheError();
        carryOutEachError();
        carryOutEmptiesThePad();
        carryOutIsOneChange();
        carryOutMostOrders();
        undoNone();
        undoAtMostSix();
        undoEachChange();
        undoNotRecorded();
        undoNoErrorRecords();
        undoSameStateRecords();
        undoLeavesPadAndSlots();
        undoThenOtherChanges();
        undoOfOrders();
        undoBringsTheRideBack();
        undoOfLog();
        saveSlots();
        saveOverwrites();
        saveIsNoChange();
        saveLeavesPadAndHistory();
        restoreSlots();
        restoreNothingSaved();
        restoreKeeps();
        restoreIsAChange();
        restoreLeavesPadAndHistory();
        restoreReturnsRides();
        close();
    }

    // ---- promise 19

    private static void putOneToEight() {
        part("19: 1 to 8 characters");
        due("none", new FareDrops().put(0), BAD_VALUE);
        for (int length = 1; length <= 8; length++) {
            FareDrops x = new FareDrops();
            due(length + " characters", x.put(packed("h;e;h;e;".substring(0, length))), length);
            due("count(7)", x.count(7), length);
            due("fault()", x.fault(), length % 2 == 1 ? NONE : length);
        }
    }

    private static void putCodes() {
        part("19: BAD_VALUE if a code is not 33 to 126");
        for (int length = 1; length <= 8; length++) {
            for (int place = 0; place < length; place++) {
                for (int code : new int[] {1, 31, 32, 33, 34, 125, 126, 127, 128, 160, 161, 254, 255}) {
                    long characters = 0;
                    for (int i = 0; i < length; i++) {
                        characters = characters << 8 | (i == place ? code : 'h');
                    }
                    String call = "code " + code + " at place " + place + " of " + length;
                    boolean fits = code >= 33 && code <= 126;
                    FareDrops x = new FareDrops();
                    due(call, x.put(characters), fits ? length : BAD_VALUE);
                    due(call + ", count(7)", x.count(7), fits ? length : 0);
                }
            }
        }
    }

    private static void putBitsAbove() {
        part("19: BAD_VALUE if a bit above 8 bits that are 0 is not 0");
        for (int length = 0; length < 7; length++) {
            long characters = packed("hhhhhhhh".substring(0, length));
            for (int bit = 8 * length + 8; bit < 64; bit++) {
                FareDrops x = new FareDrops();
                due("bit " + bit + " above " + length, x.put(characters | 1L << bit), BAD_VALUE);
                due("count(7)", x.count(7), 0);
            }
        }
        FareDrops x = new FareDrops();
        due("8 bits that are 0 are the last", x.put((long) 'h' << 8), BAD_VALUE);
        due("the highest bit alone", x.put(Long.MIN_VALUE), BAD_VALUE);
        due("all bits", x.put(-1L), BAD_VALUE);
        due("all bits but the highest", x.put(Long.MAX_VALUE), BAD_VALUE);
        due("no bit above", x.put('h'), 1);
    }

    private static void putTooMany() {
        part("19: TOO_MANY if the pad would be longer than 80");
        for (int length = 70; length <= 80; length++) {
            for (int added = 1; added <= 8; added++) {
                FareDrops x = new FareDrops();
                write(x, "h;".repeat(40).substring(0, length));
                boolean fits = length + added <= 80;
                String call = added + " more than " + length;
                due(call, x.put(packed("hhhhhhhh".substring(0, added))), fits ? length + added : TOO_MANY);
                due(call + ", count(7)", x.count(7), fits ? length + added : length);
            }
        }
        FareDrops x = new FareDrops();
        write(x, "h;".repeat(40));
        due("BAD_VALUE is first", x.put(0), BAD_VALUE);
        due("BAD_VALUE is first", x.put(packed("h\u007f")), BAD_VALUE);
        due("BAD_VALUE is first", x.put('h' | 1L << 16), BAD_VALUE);
    }

    private static void putOrder() {
        FareDrops x = begin("19: its lowest 8 bits are the last character");
        x.put((long) 'w' << 16 | '1' << 8 | '2');
        due("carryOut()", x.carryOut(), 1);
        due("w12", x.count(0), 12);
        x.put(packed("h;d12345"));
        x.put(packed("/7"));
        due("fault()", x.fault(), 7);
        x.wipe();
        x.put(packed("h;d1234/"));
        x.put(packed("56;e"));
        due("carryOut()", x.carryOut(), 3);
        due("log(0, 1)", x.log(0, 1), 1234);
        due("log(0, 2)", x.log(0, 2), 56);
    }

    // ---- promises 20 and 21

    private static void wipeReturnsLength() {
        part("20: empties the pad, and returns the length that it had");
        for (int length : new int[] {0, 1, 8, 79, 80}) {
            FareDrops x = new FareDrops();
            write(x, "x;".repeat(40).substring(0, length));
            due("wipe()", x.wipe(), length);
            due("count(7)", x.count(7), 0);
            due("fault()", x.fault(), 0);
            due("wipe() again", x.wipe(), 0);
            due("room for 8", x.put(packed("h;h;h;h;")), 8);
        }
    }

    private static void faultOrNone() {
        FareDrops x = begin("21: the fault of the pad, NONE if there is none");
        due("empty", x.fault(), 0);
        x.put('h');
        due("h", x.fault(), NONE);
        due("h, again", x.fault(), NONE);
        x.put(';');
        due("h;", x.fault(), 2);
        x.put(';');
        due("h;;", x.fault(), 2);
        x.put('h');
        due("h;;h", x.fault(), 2);
        due("the pad stays", x.count(7), 4);
        x.wipe();
        due("empty", x.fault(), 0);
        write(x, "x;".repeat(39) + "x");
        due("79 characters", x.fault(), NONE);
        x.put(';');
        due("80 characters", x.fault(), 80);
    }

    // ---- promise 22

    private static void carryOutBadText() {
        part("22: BAD_TEXT if the pad has a fault (then it stays)");
        for (String text : new String[] {"", "q", "h;", "h;w", "h;x;hq", "d1/1", "h;d1/10000", "h;e;00"}) {
            FareDrops x = new FareDrops();
            write(x, text);
            boolean wrong = !text.equals("d1/1");
            due("carryOut() of " + text, x.carryOut(), wrong ? BAD_TEXT : 0);
            due("count(7) behind " + text, x.count(7), wrong ? text.length() : 0);
            due("count(1) behind " + text, x.count(1), 0);
            due("count(8) behind " + text, x.count(8), wrong ? 0 : 1);
        }
        FareDrops x = new FareDrops();
        write(x, "h;w");
        x.carryOut();
        x.put(packed("5;x"));
        due("mended: h is carried out, w is refused", x.carryOut(), 1);
    }

    private static void carryOutUpToTheError() {
        part("22: up to the first one that returns an error");
        carried("h", 1, 1, 0);
        carried("e", 0, 0, 0);
        carried("h;h", 1, 1, 0);
        carried("h;e;e;h", 2, 0, 1);
        carried("h;e;h", 3, 1, 1);
        carried("h;h;e", 1, 1, 0);
        carried("s;h", 0, 0, 0);
        carried("w1;w9999;w0;h", 2, 0, 0);
        carried("h;s;e;x;h", 3, 0, 1);
    }

    private static void carried(String text, int orders, int state, int rides) {
        FareDrops x = new FareDrops();
        write(x, text);
        due("carryOut() of " + text, x.carryOut(), orders);
        due("count(1) behind " + text, x.count(1), state);
        due("count(4) behind " + text, x.count(4), rides);
    }

    private static void carryOutEachError() {
        part("22: an order that returns an error changes nothing");
        refused("", "d1/1");
        refused("", "s");
        refused("", "x");
        refused("", "e");
        refused("", "w0");
        refused("h", "h");
        refused("h", "w1");
        refused("h", "d1/0");
        refused("h", "d0/0");
        refused("h;s", "d9999/9999");
        refused("h;s", "h");
        refused("h;s", "w0");
        refused("h;x;x;x;x;x;x;x;x;x", "x");
    }

    private static void refused(String before, String order) {
        FareDrops x = new FareDrops();
        FareDrops y = new FareDrops();
        x.rest(7);
        y.rest(7);
        int allowed = (before.length() + 1) / 2;
        if (allowed > 0) {
            write(y, before);
            y.carryOut();
        }
        write(x, (allowed > 0 ? before + ";" : "") + order + ";h;e;h;e");
        due("carryOut() of " + before + ";" + order, x.carryOut(), allowed);
        same("behind " + before + ";" + order, seen(x), seen(y));
    }

    private static void carryOutEmptiesThePad() {
        part("22: and empties the pad");
        for (String text : new String[] {"h", "e", "h;h;h", "w9999;w9999", "d0/0"}) {
            FareDrops x = new FareDrops();
            write(x, text);
            x.carryOut();
            due("count(7) behind " + text, x.count(7), 0);
            due("fault() behind " + text, x.fault(), 0);
            due("carryOut() again behind " + text, x.carryOut(), BAD_TEXT);
            x.put('w');
            due("put() behind " + text, x.count(7), 1);
            due("the old text is not read", x.fault(), 1);
        }
    }

    private static void carryOutIsOneChange() {
        FareDrops x = begin("22: one change, with all of them; also if none is carried out");
        write(x, "w1;h;x;d50/7;s;w9;e;h");
        due("carryOut()", x.carryOut(), 8);
        due("count(8)", x.count(8), 1);
        write(x, "h");
        due("none is carried out", x.carryOut(), 0);
        due("count(8)", x.count(8), 2);
        write(x, "q");
        due("a fault", x.carryOut(), BAD_TEXT);
        due("count(8)", x.count(8), 2);
        due("undo()", x.undo(), 1);
        due("count(4)", x.count(4), 1);
        due("undo()", x.undo(), 0);
        due("count(4)", x.count(4), 0);
        due("count(0)", x.count(0), 0);
        for (int i = 1; i <= 7; i++) {
            x.wipe();
            write(x, "e;h;e");
            due("none is carried out", x.carryOut(), 0);
            due("count(8)", x.count(8), Math.min(i, 6));
        }
    }

    private static void carryOutMostOrders() {
        FareDrops x = begin("22: as many orders as the pad can have");
        write(x, "h;" + "s;".repeat(38) + "s");
        due("79 characters", x.count(7), 79);
        due("40 orders", x.carryOut(), 40);
        due("halts behind 39 turns", x.count(1), 2);
        x = new FareDrops();
        x.hire();
        write(x, "d9999/9999;".repeat(7) + "e");
        due("78 characters", x.count(7), 78);
        due("8 orders", x.carryOut(), 8);
        due("log(0, 1)", x.log(0, 1), 7 * 9999);
        due("log(0, 2)", x.log(0, 2), 7 * 9999);
    }

    // ---- promise 23

    private static void undoNone() {
        FareDrops x = begin("23: NOT_POSSIBLE if there is none");
        due("new", x.undo(), NOT_POSSIBLE);
        x.rest(1);
        due("one", x.undo(), 0);
        due("none", x.undo(), NOT_POSSIBLE);
        due("none, again", x.undo(), NOT_POSSIBLE);
        due("count(8)", x.count(8), 0);
        x.rest(2);
        due("one again", x.undo(), 0);
        due("count(0)", x.count(0), 0);
    }

    private static void undoAtMostSix() {
        part("23: a history of at most 6 states: when one more is recorded, the oldest one is dropped");
        for (int changes : new int[] {5, 6, 7, 8, 12, 13, 14, 20}) {
            FareDrops x = new FareDrops();
            for (int i = 0; i < changes; i++) {
                x.rest(1);
            }
            int kept = Math.min(changes, 6);
            for (int left = kept - 1; left >= 0; left--) {
                due("undo() behind " + changes, x.undo(), left);
                due("count(8) behind " + changes, x.count(8), left);
                due("count(0) behind " + changes, x.count(0), changes - kept + left);
            }
            due("one more behind " + changes, x.undo(), NOT_POSSIBLE);
            due("count(0) behind " + changes, x.count(0), changes - kept);
        }
    }

    /** A running meter behind four changes, with a drop of each kind, hired at the second 5; slot 0 has it. */
    private static FareDrops started() {
        FareDrops x = new FareDrops();
        x.rest(5);
        x.hire();
        x.drive(183, 41);
        x.extra();
        x.save(0);
        return x;
    }

    private static void undoEachChange() {
        part("23: each method that is a change records the state before it");
        undone("tariff", x -> x.tariff(0, 1, 1, 1, 1));
        undone("hour", x -> x.hour(0, 1));
        undone("priceOfExtra", x -> x.priceOfExtra(6));
        undone("drive", x -> x.drive(0, 1));
        undone("halt", x -> x.halt());
        undone("extra", x -> x.extra());
        undone("end", x -> x.end());
        FareDrops x = started();
        x.halt();
        undone("rest, halting", x, y -> y.rest(1));
        x = started();
        x.end();
        undone("rest, free", x, y -> y.rest(1));
        x = started();
        x.end();
        undone("hire", x, y -> y.hire());
        x = started();
        write(x, "x;e");
        undone("carryOut", x, y -> y.carryOut());
        x = started();
        x.end();
        undone("restore", x, y -> y.restore(0));
    }

    private static void undone(String name, Call change) {
        undone(name, started(), change);
    }

    private static void undone(String name, FareDrops x, Call change) {
        String before = seen(x);
        int size = x.count(8);
        due(name + " refused", change.on(x) < 0 ? 1 : 0, 0);
        due(name + ", count(8)", x.count(8), size + 1);
        same(name + " changes something", seen(x).equals(before) ? "alike " : "other ", "other ");
        due(name + ", undo()", x.undo(), size);
        same(name + " undone", seen(x), before);
    }

    private static void undoNotRecorded() {
        FareDrops x = started();
        part("23: what is no change records nothing");
        x.ofTariff(0, 0);
        x.ride(0);
        x.log(0, 0);
        x.count(8);
        x.would(1, 1);
        x.price(1, 1);
        x.farthest(1, 100);
        x.cheapest(1, 1, 0);
        x.put('h');
        x.fault();
        x.wipe();
        x.save(0);
        x.save(1);
        due("count(8)", x.count(8), 4);
        due("undo()", x.undo(), 3);
        due("the latest change", x.ride(7), 0);
    }

    private static void undoNoErrorRecords() {
        FareDrops x = started();
        part("23: no error records");
        x.tariff(3, 1, 1, 1, 1);
        x.tariff(0, 1000, 1, 1, 1);
        x.hour(24, 0);
        x.priceOfExtra(100);
        x.hire();
        x.drive(0, 0);
        x.rest(1);
        x.rest(0);
        x.carryOut();
        x.restore(1);
        x.restore(2);
        due("count(8)", x.count(8), 4);
        for (int i = 2; i <= 9; i++) {
            x.extra();
        }
        due("count(8)", x.count(8), 6);
        x.extra();
        due("TOO_MANY", x.undo(), 5);
        due("ride(7)", x.ride(7), 8);
        for (int i = 4; i >= 0; i--) {
            x.hire();
            due("with an error between", x.undo(), i);
            due("ride(7)", x.ride(7), i + 3);
        }
        due("the oldest were dropped", x.undo(), NOT_POSSIBLE);
    }

    private static void undoSameStateRecords() {
        FareDrops x = begin("23: also if nothing is different then");
        due("tariff", x.tariff(1, 30, 2, 90, 20), 2);
        due("count(8)", x.count(8), 1);
        due("hour", x.hour(0, 0), 0);
        due("count(8)", x.count(8), 2);
        due("priceOfExtra", x.priceOfExtra(5), 5);
        due("count(8)", x.count(8), 3);
        write(x, "e");
        due("carryOut", x.carryOut(), 0);
        due("count(8)", x.count(8), 4);
        x.save(1);
        due("restore", x.restore(1), 0);
        due("count(8)", x.count(8), 5);
        due("undo()", x.undo(), 4);
    }

    private static void undoLeavesPadAndSlots() {
        FareDrops x = begin("23: everything except the pad, the slots and the history");
        write(x, "h;x");
        x.rest(1);
        x.put(';');
        x.save(0);
        x.rest(2);
        x.save(1);
        x.undo();
        due("the pad", x.count(7), 4);
        x.undo();
        due("the pad", x.count(7), 4);
        due("the pad", x.fault(), 4);
        due("slot 0", x.restore(0), 0);
        due("slot 0", x.count(0), 1);
        due("slot 1", x.restore(1), 0);
        due("slot 1", x.count(0), 3);
        due("history", x.count(8), 2);
        x.put('s');
        due("carryOut()", x.carryOut(), 3);
        x.undo();
        due("the pad stays empty", x.count(7), 0);
    }

    private static void undoThenOtherChanges() {
        FareDrops x = begin("23: changes behind an undo take its place");
        for (int i = 0; i < 8; i++) {
            x.rest(1);
        }
        x.undo();
        x.undo();
        due("count(8)", x.count(8), 4);
        x.rest(100);
        x.rest(100);
        x.rest(100);
        due("count(8)", x.count(8), 6);
        int[] seconds = {206, 106, 6, 5, 4, 3};
        for (int i = 0; i < 6; i++) {
            due("undo()", x.undo(), 5 - i);
            due("count(0)", x.count(0), seconds[i]);
        }
        due("undo()", x.undo(), NOT_POSSIBLE);
    }

    private static void undoOfOrders() {
        FareDrops x = begin("23: an order of a text records nothing by itself");
        x.rest(9);
        write(x, "h;x;x;x;x;x;x;x;x;x;e");
        due("carryOut()", x.carryOut(), 11);
        due("count(8)", x.count(8), 2);
        due("all at once", x.undo(), 1);
        due("count(4)", x.count(4), 0);
        rides(x, 0, 0, 0, 0, 0, 0, 0, 0, 0);
        due("count(1)", x.count(1), 0);
        due("the one before", x.undo(), 0);
        due("count(0)", x.count(0), 0);
    }

    private static void undoBringsTheRideBack() {
        FareDrops x = started();
        part("23: everything is as it was before it, also of a ride that ended meanwhile");
        String before = seen(x);
        write(x, "d9999/9;x;d0/99;s;w5;e;w9;h;x;x;d777/7;d0/60;s;w8;e;h");
        due("carryOut()", x.carryOut(), 16);
        x.undo();
        same("undone", seen(x), before);
        due("end()", x.end(), 39);
        logs(x, 0, 39, 183, 41, 2, 5);
        x.restore(0);
        x.end();
        logs(x, 0, 39, 183, 41, 2, 5);
    }

    private static void undoOfLog() {
        part("23: the log, also beyond its 12 rides, and the ride that ended last");
        FareDrops x = new FareDrops();
        for (int i = 1; i <= 12; i++) {
            x.hire();
            x.drive(i, 1);
            x.end();
        }
        x.hire();
        x.drive(13, 1);
        String before = seen(x);
        x.end();
        due("the first is dropped", x.log(11, 1), 2);
        x.undo();
        same("the first is back", seen(x), before);
        due("log(11, 1)", x.log(11, 1), 1);
        x.undo();
        x.undo();
        due("the ride that ended last", x.ride(2), 12);
        due("count(1)", x.count(1), 0);
    }

    // ---- promise 24

    private static void saveSlots() {
        part("24: slot 0 or 1, BAD_VALUE if there is no such slot");
        range("slot", 0, 1, BAD_VALUE, FareDrops::new, (x, value) -> x.save(value));
        FareDrops x = new FareDrops();
        due("save(0)", x.save(0), 0);
        x.rest(1);
        due("save(1)", x.save(1), 0);
        x.rest(1);
        due("save(2)", x.save(2), BAD_VALUE);
        due("save(-1)", x.save(-1), BAD_VALUE);
        x.restore(0);
        due("slot 0", x.count(0), 0);
        x.restore(1);
        due("slot 1", x.count(0), 1);
    }

    private static void saveOverwrites() {
        FareDrops x = begin("24: overwrites what was saved there");
        for (int slot = 0; slot < 2; slot++) {
            x.rest(1);
            x.save(slot);
            x.rest(10);
            x.save(slot);
            x.rest(100);
            x.restore(slot);
            due("count(0)", x.count(0), 11 * slot + 11);
        }
        x.restore(0);
        due("not the other slot", x.count(0), 11);
    }

    private static void saveIsNoChange() {
        FareDrops x = started();
        part("24: saving is no change, and returns how many rides ended so far");
        due("none", x.save(0), 0);
        x.end();
        due("one", x.save(0), 1);
        due("again", x.save(1), 1);
        due("count(8)", x.count(8), 5);
        x.undo();
        due("undo() undoes the end", x.count(1), 1);
        due("none", x.save(1), 0);
    }

    private static void saveLeavesPadAndHistory() {
        FareDrops x = started();
        part("24: everything except the pad, the history and the slots is saved");
        write(x, "h;x");
        x.save(1);
        String before = seen(x);
        x.wipe();
        x.put('e');
        x.save(0);
        x.tariff(0, 1, 1, 1, 1);
        x.tariff(2, 1, 1, 1, 1);
        x.hour(23, 1);
        x.priceOfExtra(0);
        x.carryOut();
        x.rest(1);
        x.hire();
        x.drive(9999, 9);
        x.put('s');
        x.restore(1);
        same("all else", seen(x), before);
        due("the pad", x.count(7), 1);
        due("the history", x.count(8), 6);
        x.undo();
        due("count(4)", x.count(4), 1);
        due("the other slot", x.restore(0), 0);
    }

    // ---- promise 25

    private static void restoreSlots() {
        part("25: slot 0 or 1, BAD_VALUE if there is no such slot");
        range("slot", 0, 1, BAD_VALUE, BoundariesOfTextsAndUndoTest::saved, (x, value) -> x.restore(value));
        due("no slot, and nothing saved", new FareDrops().restore(-1), BAD_VALUE);
        due("no slot, and nothing saved", new FareDrops().restore(2), BAD_VALUE);
    }

    private static FareDrops saved() {
        FareDrops x = new FareDrops();
        x.save(0);
        x.save(1);
        return x;
    }

    private static void restoreNothingSaved() {
        FareDrops x = begin("25: NOT_POSSIBLE if nothing was saved in it");
        due("slot 0", x.restore(0), NOT_POSSIBLE);
        due("slot 1", x.restore(1), NOT_POSSIBLE);
        x.save(1);
        due("slot 0", x.restore(0), NOT_POSSIBLE);
        due("slot 1", x.restore(1), 0);
        x.undo();
        due("slot 0", x.restore(0), NOT_POSSIBLE);
        x = new FareDrops();
        x.save(0);
        due("slot 1", x.restore(1), NOT_POSSIBLE);
        due("slot 0", x.restore(0), 0);
    }

    private static void restoreKeeps() {
        FareDrops x = started();
        part("25: a slot keeps what was saved");
        String before = seen(x);
        x.save(1);
        for (int i = 0; i < 3; i++) {
            x.end();
            x.tariff(0, i, 1, 1, 1);
            x.hour(0, 1);
            x.hire();
            x.drive(9999, 9);
            x.restore(1);
            same("restored " + (i + 1), seen(x), before);
        }
    }

    private static void restoreIsAChange() {
        FareDrops x = begin("25: this is a change");
        x.save(0);
        x.rest(1);
        x.rest(1);
        due("restore(0)", x.restore(0), 0);
        due("count(8)", x.count(8), 3);
        due("count(0)", x.count(0), 0);
        due("restore(1)", x.restore(1), NOT_POSSIBLE);
        due("restore(2)", x.restore(2), BAD_VALUE);
        due("count(8)", x.count(8), 3);
        due("undo()", x.undo(), 2);
        due("count(0)", x.count(0), 2);
        for (int i = 0; i < 7; i++) {
            x.restore(0);
        }
        due("at most 6", x.count(8), 6);
    }

    private static void restoreLeavesPadAndHistory() {
        FareDrops x = begin("25: the pad and the history are not restored");
        x.save(0);
        x.rest(4);
        write(x, "w5");
        x.restore(0);
        due("the pad", x.count(7), 2);
        due("carryOut()", x.carryOut(), 1);
        due("count(0)", x.count(0), 5);
        due("undo()", x.undo(), 2);
        due("count(0)", x.count(0), 0);
        due("undo()", x.undo(), 1);
        due("count(0)", x.count(0), 4);
        due("undo()", x.undo(), 0);
        due("count(0)", x.count(0), 0);
        due("undo()", x.undo(), NOT_POSSIBLE);
    }

    private static void restoreReturnsRides() {
        FareDrops x = begin("25: returns how many rides ended so far then");
        x.save(0);
        for (int i = 0; i < 13; i++) {
            x.hire();
            x.end();
        }
        due("save(1)", x.save(1), 13);
        due("none then", x.restore(0), 0);
        due("count(4)", x.count(4), 0);
        due("count(6)", x.count(6), 0);
        due("log(0, 0)", x.log(0, 0), NO_SUCH);
        due("13 then", x.restore(1), 13);
        due("count(6)", x.count(6), 12);
        due("log(11, 0)", x.log(11, 0), 30);
    }
}
