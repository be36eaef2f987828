/** Promises 7 and 8 (take, run), 21 to 27 (queries about readings), 28 and 29 (what would happen). */
public final class ReadingsTest {
    public static void main(String[] args) {
        Check.test(ReadingsTest::promise7Take);
        Check.test(ReadingsTest::promise7SixtyReadings);
        Check.test(ReadingsTest::promise8Run);
        Check.test(ReadingsTest::promise21Stored);
        Check.test(ReadingsTest::promise22StoredReading);
        Check.test(ReadingsTest::promise23And24Collected);
        Check.test(ReadingsTest::promise24SixtyCollected);
        Check.test(ReadingsTest::promise25Copies);
        Check.test(ReadingsTest::promise26Missing);
        Check.test(ReadingsTest::promise27WrongStamps);
        Check.test(ReadingsTest::promise28SlotsToCollect);
        Check.test(ReadingsTest::promise28FourHundredSlots);
        Check.test(ReadingsTest::promise29IfRun);
        Check.finish();
    }

    private static void promise7Take() {
        Check.sentence("Promise 7: take");
        MeterNetwork x = new MeterNetwork();
        x.jump(2, 30);
        x.run(7);
        Check.same("first", x.take(2, 0), 0);
        Check.same("second", x.take(2, 999), 1);
        x.power(9, false);
        Check.same("another meter, off", x.take(9, 1), 0);
        Check.same("its parts", Check.stored(x, 2, 0), "2/0/0/7/37");
        Check.same("its parts too", Check.stored(x, 2, 1), "2/1/999/7/37");
        Check.same("the other's parts", Check.stored(x, 9, 0), "9/0/1/7/7");
        Check.same("saved each time", x.savedStates(), 6);
        x.undo();
        Check.same("undone", x.stored(9), 0);
        Check.same("numbers go on from there", x.take(9, 3), 0);
        for (int number = 2; number < 6; number++) {
            Check.same("number", x.take(2, number), number);
        }
        Check.state("take at a full store", x, () -> x.take(2, 6));
        Check.argument("a wrong value at a full store", x, () -> x.take(2, 1000));
        Check.argument("take(1, -1)", x, () -> x.take(1, -1));
        Check.argument("take(1, 1000)", x, () -> x.take(1, 1000));
        Check.index("take(0)", x, () -> x.take(0, 0));
        Check.index("take(0, 1000)", x, () -> x.take(0, 1000));
        Check.index("take(-1)", x, () -> x.take(-1, 0));
        Check.index("take(10)", x, () -> x.take(10, 0));
    }

    private static void promise7SixtyReadings() {
        Check.sentence("Promise 7: take, sixty readings");
        MeterNetwork x = Check.chain(0, 1);
        for (int meter = 1; meter <= 9; meter++) {
            for (int number = 0; number < 6; number++) {
                Check.same("take", x.take(meter, number), number);
            }
        }
        x.run(100);
        Check.same("six are collected", x.collected(), 6);
        for (int number = 6; number < 12; number++) {
            Check.same("take again", x.take(1, number), number);
        }
        Check.same("sixty", x.count(0), 60);
        x.run(10);
        Check.same("there is room in the store", x.stored(1), 5);
        Check.state("a reading more than sixty", x, () -> x.take(1, 1));
        x.undo();
        x.undo();
        Check.same("the sixtieth once more", x.take(1, 500), 11);
        Check.state("again no more", x, () -> x.take(1, 1));
        x.run(100);
        Check.same("all of meter 1", x.collected(), 12);
        Check.same("the last one", Check.collected(x, 11), "1/11/500/100/100");
        Check.same("its copies", x.copies(1, 11), 0);
        Check.same("none of them is wrong", x.wrongStamps(), 0);
        Check.state("no more", x, () -> x.take(1, 1));
    }

    private static void promise8Run() {
        Check.sentence("Promise 8: run");
        MeterNetwork x = Check.chain(0, 1);
        x.take(1, 5);
        x.take(1, 6);
        Check.same("the slot of 0", x.run(1), 0);
        Check.same("the slot of 1", x.run(1), 1);
        Check.same("in these slots alone", x.run(10), 1);
        Check.same("no more", x.run(100), 0);
        Check.same("time", x.time(), 112);
        Check.same("undone as one call", x.undo(), 6 - 1);
        Check.same("time before it", x.time(), 12);
        x.undo();
        Check.same("one is back", x.stored(1), 1);
        Check.argument("run(0)", x, () -> x.run(0));
        Check.argument("run(101)", x, () -> x.run(101));
        Check.argument("run(-1)", x, () -> x.run(-1));
        Check.argument("run(min)", x, () -> x.run(Integer.MIN_VALUE));
        Check.argument("run(max)", x, () -> x.run(Integer.MAX_VALUE));
    }

    private static void promise21Stored() {
        Check.sentence("Promise 21: stored");
        MeterNetwork x = Check.chain(0, 1, 2);
        x.take(2, 1);
        x.take(2, 2);
        Check.same("taken", x.stored(2), 2);
        x.run(3);
        Check.same("one is handed on", x.stored(2), 1);
        Check.same("to the parent", x.stored(1), 1);
        Check.same("no other", x.stored(3), 0);
        Check.index("stored(0)", x, () -> x.stored(0));
        Check.index("stored(-1)", x, () -> x.stored(-1));
        Check.index("stored(10)", x, () -> x.stored(10));
    }

    private static void promise22StoredReading() {
        Check.sentence("Promise 22: storedReading");
        MeterNetwork x = new MeterNetwork();
        x.jump(9, -5);
        x.run(3);
        x.take(9, 123);
        x.take(9, 45);
        Check.same("meter", x.storedReading(9, 1, 0), 9);
        Check.same("number", x.storedReading(9, 1, 1), 1);
        Check.same("value", x.storedReading(9, 1, 2), 45);
        Check.same("time", x.storedReading(9, 1, 3), 3);
        Check.same("stamp", x.storedReading(9, 1, 4), -2);
        Check.same("behind the last", x.storedReading(9, 2, 0), -1);
        Check.same("behind the last, the stamp", x.storedReading(9, 2, 4), -1);
        Check.same("far behind", x.storedReading(9, Integer.MAX_VALUE, 4), -1);
        Check.same("behind a full store", x.storedReading(9, 6, 2), -1);
        Check.same("an empty store", x.storedReading(1, 0, 0), -1);
        MeterNetwork y = Check.chain(0, 1, 2);
        y.take(2, 7);
        y.take(2, 8);
        y.run(3);
        Check.same("in another store: the meter that took it", y.storedReading(1, 0, 0), 2);
        Check.same("its number there", y.storedReading(1, 0, 1), 0);
        Check.same("its value there", y.storedReading(1, 0, 2), 7);
        Check.same("the number of the one behind it", y.storedReading(2, 0, 1), 1);
        Check.index("storedReading(0)", x, () -> x.storedReading(0, 0, 0));
        Check.index("storedReading(10)", x, () -> x.storedReading(10, 0, 5));
        Check.index("index -1", x, () -> x.storedReading(9, -1, 0));
        Check.index("index -1, part 5", x, () -> x.storedReading(9, -1, 5));
        Check.index("index min", x, () -> x.storedReading(9, Integer.MIN_VALUE, 0));
        Check.argument("part -1", x, () -> x.storedReading(9, 0, -1));
        Check.argument("part 5", x, () -> x.storedReading(9, 0, 5));
        Check.argument("part 5 behind the last", x, () -> x.storedReading(9, 2, 5));
    }

    private static void promise23And24Collected() {
        Check.sentence("Promises 23 and 24: collected, collectedReading");
        MeterNetwork x = Check.chain(1, 0, 2);
        x.take(2, 7);
        x.take(1, 8);
        x.take(1, 9);
        Check.same("none", x.collected(), 0);
        Check.same("no first", x.collectedReading(0, 0), -1);
        x.run(30);
        Check.same("three", x.collected(), 3);
        Check.same("1 came first", Check.collected(x, 0), "1/0/8/0/0");
        Check.same("then 2", Check.collected(x, 1), "2/0/7/0/0");
        Check.same("then 1 again", Check.collected(x, 2), "1/1/9/0/0");
        Check.same("behind the last", x.collectedReading(3, 4), -1);
        Check.same("behind sixty", x.collectedReading(60, 2), -1);
        Check.same("far behind", x.collectedReading(Integer.MAX_VALUE, 0), -1);
        Check.index("index -1", x, () -> x.collectedReading(-1, 0));
        Check.index("index -1, part 5", x, () -> x.collectedReading(-1, 5));
        Check.argument("part 5", x, () -> x.collectedReading(0, 5));
        Check.argument("part -1", x, () -> x.collectedReading(0, -1));
        Check.argument("part 5 behind the last", x, () -> x.collectedReading(3, 5));
    }

    /** Sixty come in while the stores around the collector's list are in use. */
    private static void promise24SixtyCollected() {
        Check.sentence("Promise 24: collectedReading, sixty readings");
        MeterNetwork x = new MeterNetwork();
        for (int meter = 1; meter <= 9; meter++) {
            x.link(0, meter, true);
        }
        x.run(10);
        StringBuilder due = new StringBuilder();
        for (int value = 0; value < 60; value++) {
            int meter = 1 + value % 9;
            Check.same("number", x.take(meter, value), value / 9);
            due.append(" ").append(meter).append('/').append(value / 9).append('/').append(value).append('/');
            due.append(x.time()).append('/').append(x.time());
            if (meter == 9) {
                x.run(10);
            }
        }
        x.setFaults(1, 1);
        x.run(2);
        x.setFaults(1, 0);
        Check.same("kept for the lost acknowledgement", Check.stored(x, 1, 0), "1/6/54/70/70");
        x.run(8);
        Check.same("all sixty", x.collected(), 60);
        x.run(10);
        Check.same("no store holds any", x.stored(1) + x.stored(9), 0);
        StringBuilder got = new StringBuilder();
        for (int index = 0; index < 60; index++) {
            got.append(" ").append(Check.collected(x, index));
        }
        Check.same("in their order", got.toString(), due.toString());
        Check.same("the least behind", x.collectedReading(60, 0), -1);
    }

    private static void promise25Copies() {
        Check.sentence("Promise 25: copies");
        MeterNetwork x = Check.chain(0, 1, 2, 3);
        x.setPatience(5);
        x.run(10);
        x.power(0, false);
        x.take(3, 5);
        x.setFaults(3, 1);
        x.setFaults(2, 1);
        Check.same("at its meter", x.copies(3, 0), 1);
        x.run(4);
        Check.same("at its meter and at 2", x.copies(3, 0), 2);
        x.run(9);
        Check.same("at 1 too", x.copies(3, 0), 3);
        Check.same("not taken", x.copies(3, 1), -1);
        Check.same("not taken at this meter", x.copies(2, 0), -1);
        Check.same("a number below 0", x.copies(3, -1), -1);
        Check.same("a far number", x.copies(3, Integer.MAX_VALUE), -1);
        x.power(0, true);
        x.run(100);
        Check.same("collected: the list of the collector is no store", x.copies(3, 0), 0);
        x.take(1, 3);
        Check.same("taken", x.copies(1, 0), 1);
        x.undo();
        Check.same("not taken once it is undone", x.copies(1, 0), -1);
        Check.index("copies(0, 0)", x, () -> x.copies(0, 0));
        Check.index("copies(10, 0)", x, () -> x.copies(10, 0));
        Check.index("copies(-1, -1)", x, () -> x.copies(-1, -1));
    }

    private static void promise26Missing() {
        Check.sentence("Promise 26: missing");
        MeterNetwork x = Check.chain(0, 1);
        x.take(1, 1);
        x.take(1, 2);
        x.take(9, 3);
        Check.same("all", x.missing(), 3);
        x.run(10);
        Check.same("one came in", x.missing(), 2);
        x.run(100);
        Check.same("no way for the third", x.missing(), 1);
        x.undo();
        Check.same("undone", x.missing(), 2);
    }

    private static void promise27WrongStamps() {
        Check.sentence("Promise 27: wrongStamps");
        MeterNetwork x = Check.chain(0, 1);
        x.run(10);
        x.jump(1, 5);
        x.take(1, 1);
        x.take(1, 2);
        Check.same("not collected yet", x.wrongStamps(), 0);
        x.run(2);
        Check.same("set right when the clock is set", x.wrongStamps(), 0);
        x.jump(1, 5);
        x.run(10);
        Check.same("moved together with the store, whose stamps were right", x.wrongStamps(), 1);
        Check.same("one is wrong", Check.collected(x, 1), "1/1/2/10/5");
        Check.same("the other is right", Check.collected(x, 0), "1/0/1/10/10");
    }

    private static void promise28SlotsToCollect() {
        Check.sentence("Promise 28: slotsToCollect");
        MeterNetwork x = Check.chain(0, 1, 2);
        Check.same("none is missing", x.slotsToCollect(), 0);
        x.take(2, 1);
        // 1 hears 0 in the slot 0, 2 hears 1 in the slot 1 and sends in the slot 2, and 1 sends in the slot 11.
        Check.same("twelve", x.slotsToCollect(), 12);
        String before = Check.picture(x);
        x.slotsToCollect();
        Check.same("a query changes nothing", Check.picture(x), before);
        x.run(11);
        Check.same("one more", x.slotsToCollect(), 1);
        x.run(1);
        Check.same("none", x.slotsToCollect(), 0);
        x.take(9, 1);
        Check.same("never", x.slotsToCollect(), -1);
    }

    /** All readings go through the meter 1, one in each round, so that it takes more than 400 slots. */
    private static void promise28FourHundredSlots() {
        Check.sentence("Promise 28: slotsToCollect, 400 slots");
        MeterNetwork x = fullChain();
        int due = 0;
        while (x.missing() > 0 && due < 1000) {
            x.run(1);
            due++;
        }
        Check.same("all come in, but late", due > 420 && due < 1000, true);
        MeterNetwork y = fullChain();
        Check.same("far too many", y.slotsToCollect(), -1);
        for (int left = due; left > 401; left--) {
            y.run(1);
        }
        Check.same("401 slots", y.slotsToCollect(), -1);
        y.run(1);
        Check.same("400 slots", y.slotsToCollect(), 400);
        y.run(1);
        Check.same("399 slots", y.slotsToCollect(), 399);
    }

    private static MeterNetwork fullChain() {
        MeterNetwork x = Check.chain(0, 1, 2, 3, 4, 5, 6, 7, 8, 9);
        x.run(10);
        for (int meter = 1; meter <= 9; meter++) {
            for (int value = 0; value < 6; value++) {
                x.take(meter, value);
            }
        }
        return x;
    }

    private static void promise29IfRun() {
        Check.sentence("Promise 29: ifRun");
        MeterNetwork x = Check.chain(0, 1, 2);
        x.setFaults(2, 1);
        x.jump(2, 9);
        for (int value = 0; value < 4; value++) {
            x.take(1, value);
            x.take(2, value);
        }
        String before = Check.picture(x);
        int[] told = new int[101];
        for (int slots = 1; slots <= 100; slots++) {
            told[slots] = x.ifRun(slots);
        }
        Check.same("a query changes nothing", Check.picture(x), before);
        for (int slots = 1; slots <= 100; slots++) {
            Check.same("run(" + slots + ")", x.run(slots), told[slots]);
            x.undo();
        }
        Check.same("all come in", told[100], 8);
        Check.argument("ifRun(0)", x, () -> x.ifRun(0));
        Check.argument("ifRun(101)", x, () -> x.ifRun(101));
        Check.argument("ifRun(-1)", x, () -> x.ifRun(-1));
        Check.argument("ifRun(max)", x, () -> x.ifRun(Integer.MAX_VALUE));
    }
}
