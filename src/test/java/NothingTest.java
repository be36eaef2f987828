/** NONE wherever a promise names it, with the answer next to it that is not NONE; and 0 where nothing is missing. */
public final class NothingTest {
    public static void main(String[] args) {
        Check.test(NothingTest::noParent);
        Check.test(NothingTest::noDepth);
        Check.test(NothingTest::noSilence);
        Check.test(NothingTest::noWay);
        Check.test(NothingTest::noReadingInTheStore);
        Check.test(NothingTest::noReadingCollected);
        Check.test(NothingTest::aNumberThatWasNotTaken);
        Check.test(NothingTest::aValidText);
        Check.test(NothingTest::moreThanFourHundredSlots);
        Check.test(NothingTest::noneIsMissing);
        Check.test(NothingTest::nothingToCollect);
        Check.test(NothingTest::notConnected);
        Check.test(NothingTest::noWrongStamp);
        Check.test(NothingTest::queriesChangeNothing);
        Check.finish();
    }

    private static void noParent() {
        Check.sentence("Promise 15: NONE if it has none (the collector never has one)");
        MeterNetwork x = Check.chain(1, 0, 9);
        x.link(1, 9, true);
        Check.same("at first", x.parent(9), -1);
        x.run(1);
        Check.same("over 0, which is no NONE", x.parent(9), 0);
        for (int round = 0; round < 3; round++) {
            x.run(10);
            Check.same("the collector", x.parent(0), -1);
        }
        MeterNetwork y = Check.chain(0, 1, 2);
        y.run(2);
        y.link(0, 2, true);
        y.run(1);
        Check.same("the collector, connected with 2 over 1", y.parent(0), -1);
        x.power(0, false);
        x.run(50);
        Check.same("dropped", x.parent(9), -1);
        Check.same("the collector, off", x.parent(0), -1);
    }

    private static void noDepth() {
        Check.sentence("Promise 16: NONE if it has none");
        MeterNetwork x = Check.chain(0, 9);
        Check.same("the collector", x.depth(0), 0);
        Check.same("at first", x.depth(9), -1);
        x.run(1);
        Check.same("with a parent", x.depth(9), 1);
        x.power(0, false);
        Check.same("the collector, off", x.depth(0), 0);
        x.run(28);
        Check.same("not yet dropped", x.depth(9), 1);
        x.run(1);
        Check.same("dropped", x.depth(9), -1);
        Check.sentence("Section 2: a meter has a depth exactly if it has a parent");
        MeterNetwork y = Check.chain(0, 3, 2, 1, 4);
        for (int slot = 0; slot < 120; slot++) {
            y.run(1);
            if (slot % 40 == 20) {
                y.link(0, 3, slot == 60);
            }
            for (int meter = 1; meter <= 9; meter++) {
                Check.same("both of " + meter, (y.parent(meter) == -1) == (y.depth(meter) == -1), true);
                Check.same("the silence of " + meter, (y.parent(meter) == -1) == (y.silence(meter) == -1), true);
            }
        }
    }

    private static void noSilence() {
        Check.sentence("Promise 18: NONE if it has no parent");
        MeterNetwork x = Check.chain(0, 9);
        x.run(7);
        x.undo();
        Check.same("at first", x.silence(9), -1);
        x.run(1);
        Check.same("one slot", x.silence(9), 1);
        x.power(0, false);
        x.run(28);
        Check.same("29 slots", x.silence(9), 29);
        x.run(1);
        Check.same("dropped", x.silence(9), -1);
        x.power(0, true);
        x.run(1);
        Check.same("heard again", x.silence(9), 1);
    }

    private static void noWay() {
        Check.sentence("Promise 20: NONE if there is no way");
        MeterNetwork x = Check.chain(0, 1, 2);
        x.link(3, 4, true);
        Check.same("a way", x.hops(2), 2);
        Check.same("no link at all", x.hops(9), -1);
        Check.same("a link that leads nowhere", x.hops(3), -1);
        x.power(1, false);
        Check.same("over a node that is off", x.hops(2), -1);
        x.power(1, true);
        x.link(0, 1, false);
        Check.same("no link to the collector", x.hops(1), -1);
        Check.same("the collector itself", x.hops(0), 0);
        Check.sentence("Promise 20: NONE if the node is off");
        MeterNetwork y = Check.chain(0, 1, 2);
        y.power(2, false);
        Check.same("off", y.hops(2), -1);
        Check.same("the one before it", y.hops(1), 1);
        y.power(0, false);
        Check.same("the collector, off", y.hops(0), -1);
        Check.same("a way to a node that is off", y.hops(1), -1);
        Check.sentence("Promise 20: whatever the parents are");
        MeterNetwork z = Check.chain(0, 1, 2);
        Check.same("without parents", z.hops(2), 2);
        z.run(10);
        z.power(0, false);
        Check.same("with a parent, but no way", z.hops(1), -1);
        Check.same("the parent", z.parent(1), 0);
    }

    private static void noReadingInTheStore() {
        Check.sentence("Promise 22: for an index that is not less than the number of readings: NONE");
        MeterNetwork x = new MeterNetwork();
        for (int readings = 0; readings <= 6; readings++) {
            for (int part = 0; part <= 4; part++) {
                Check.same("behind " + readings, x.storedReading(1, readings, part), -1);
                Check.same("far behind " + readings, x.storedReading(1, Integer.MAX_VALUE, part), -1);
            }
            if (readings > 0) {
                Check.same("the last of " + readings, x.storedReading(1, readings - 1, 2), 100 + readings);
            }
            if (readings < 6) {
                x.take(1, 101 + readings);
            }
        }
        x.link(0, 1, true);
        x.run(2);
        Check.same("one was removed", x.storedReading(1, 5, 2), -1);
        Check.same("the last one then", x.storedReading(1, 4, 2), 106);
        x.take(2, 9);
        Check.same("the store of another meter", x.storedReading(2, 1, 2), -1);
        x.undo();
        Check.same("undone", x.storedReading(2, 0, 2), -1);
    }

    private static void noReadingCollected() {
        Check.sentence("Promise 24: for an index that is not less than the number of collected readings: NONE");
        MeterNetwork x = Check.chain(0, 1);
        x.run(10);
        for (int readings = 0; readings < 60; readings++) {
            for (int part = 0; part <= 4; part++) {
                Check.same("behind " + readings, x.collectedReading(readings, part), -1);
            }
            x.take(1, readings);
            x.run(10);
            Check.same("the last one", x.collectedReading(readings, 2), readings);
        }
        Check.same("behind sixty", x.collectedReading(60, 0), -1);
        Check.same("far behind", x.collectedReading(Integer.MAX_VALUE, 4), -1);
        x.undo();
        Check.same("undone", x.collectedReading(59, 2), -1);
    }

    private static void aNumberThatWasNotTaken() {
        Check.sentence("Promise 25: NONE if no reading with this number was taken at the meter");
        MeterNetwork x = Check.chain(0, 1);
        Check.same("none was taken", x.copies(1, 0), -1);
        x.take(1, 5);
        x.take(1, 6);
        Check.same("the first", x.copies(1, 0), 1);
        Check.same("the last", x.copies(1, 1), 1);
        Check.same("the next", x.copies(1, 2), -1);
        Check.same("below 0", x.copies(1, -1), -1);
        Check.same("another meter", x.copies(2, 0), -1);
        x.run(2);
        Check.same("collected: in no store, but taken", x.copies(1, 0), 0);
        x.undo();
        x.undo();
        Check.same("undone", x.copies(1, 1), -1);
    }

    private static void aValidText() {
        Check.sentence("Promise 11: NONE if the text is valid, otherwise its error position");
        MeterNetwork x = new MeterNetwork();
        Check.write(x, "!0");
        Check.same("valid", x.errorPosition(), -1);
        Check.write(x, "x");
        Check.same("the error position 0", x.errorPosition(), 0);
        Check.same("a query changes nothing", x.textLength(), 1);
    }

    private static void moreThanFourHundredSlots() {
        Check.sentence("Promise 28: NONE if it is more than 400");
        for (int start : new int[] {0, 1, 5, 9}) {
            MeterNetwork x = longWay(start);
            int due = 0;
            while (x.missing() > 0 && due < 2000) {
                x.run(1);
                due++;
            }
            Check.same("it takes more than 400 slots", due > 410 && due < 2000, true);
            MeterNetwork y = longWay(start);
            for (int left = due; left > 0; left--) {
                Check.same("left", y.slotsToCollect(), left > 400 ? -1 : left);
                y.run(1);
            }
            Check.same("none is left", y.slotsToCollect(), 0);
        }
        MeterNetwork never = new MeterNetwork();
        never.take(1, 5);
        Check.same("never", never.slotsToCollect(), -1);
    }

    /** All nodes in a row, so that all 54 readings go through 1, which sends one in each round. */
    private static MeterNetwork longWay(int start) {
        MeterNetwork x = Check.chain(0, 1, 2, 3, 4, 5, 6, 7, 8, 9);
        x.run(10 + start);
        for (int meter = 1; meter <= 9; meter++) {
            while (x.stored(meter) < 6) {
                x.take(meter, x.stored(meter));
            }
        }
        return x;
    }

    private static void noneIsMissing() {
        Check.sentence("Promise 28: 0 if none is missing now");
        MeterNetwork x = Check.chain(0, 1);
        Check.same("none was taken", x.slotsToCollect(), 0);
        x.take(1, 5);
        Check.same("one is missing", x.slotsToCollect(), 2);
        x.run(1);
        Check.same("it comes in in the next slot", x.slotsToCollect(), 1);
        x.setFaults(1, 1);
        x.run(1);
        Check.same("it is in, though it is in the store too", x.slotsToCollect(), 0);
        Check.same("the store", x.stored(1), 1);
        x.power(0, false);
        Check.same("also if nothing could come in", x.slotsToCollect(), 0);
        Check.sentence("Promise 26: the number of readings that were taken and are not collected");
        Check.same("none", x.missing(), 0);
        x.take(1, 6);
        Check.same("one", x.missing(), 1);
        x.take(9, 6);
        Check.same("two", x.missing(), 2);
    }

    private static void nothingToCollect() {
        Check.sentence("Promise 29: what run() would return now: 0 where nothing comes in");
        MeterNetwork x = Check.chain(0, 1);
        Check.same("no reading", x.ifRun(100), 0);
        x.take(1, 5);
        Check.same("too few slots", x.ifRun(1), 0);
        Check.same("just enough", x.ifRun(2), 1);
        Check.same("the time stays", x.time(), 0);
        x.setFaults(1, 1);
        x.run(2);
        Check.same("a duplicate is not collected", x.ifRun(100), 0);
        Check.same("nor by run()", x.run(100), 0);
    }

    private static void notConnected() {
        Check.sentence("Promise 14: false also if they are the same");
        MeterNetwork x = Check.chain(0, 1, 2, 3, 4, 5, 6, 7, 8, 9);
        for (int node = 0; node <= 9; node++) {
            Check.same("the node " + node, x.isConnected(node, node), false);
        }
        x.power(4, false);
        Check.same("off", x.isConnected(4, 4), false);
        Check.sentence("Section 1: connected if they have a link and both are on");
        Check.same("a is off", x.isConnected(4, 5), false);
        Check.same("b is off", x.isConnected(3, 4), false);
        Check.same("no link", x.isConnected(0, 2), false);
        x.power(5, false);
        Check.same("both are off", x.isConnected(4, 5), false);
        x.power(4, true);
        x.power(5, true);
        Check.same("the link is there still", x.isConnected(4, 5), true);
    }

    private static void noWrongStamp() {
        Check.sentence("Promise 27: whose stamp is not their time: none, one above, one below");
        MeterNetwork x = Check.chain(0, 1);
        x.run(1);
        Check.same("none is collected", x.wrongStamps(), 0);
        x.take(1, 5);
        x.run(10);
        Check.same("a right one", x.wrongStamps(), 0);
        x.take(1, 6);
        x.jump(1, -1);
        x.run(1);
        Check.same("one above", Check.collected(x, 1), "1/1/6/11/12");
        Check.same("is wrong", x.wrongStamps(), 1);
        x.run(9);
        x.take(1, 7);
        x.jump(1, 1);
        x.run(1);
        Check.same("one below", Check.collected(x, 2), "1/2/7/21/20");
        Check.same("is wrong too", x.wrongStamps(), 2);
        x.jump(1, 50);
        x.take(1, 8);
        Check.same("one in a store does not count", x.wrongStamps(), 2);
        MeterNetwork y = Check.chain(0, 1);
        y.run(1);
        y.take(1, 5);
        y.jump(1, 3);
        y.run(1);
        Check.same("the only one, at the first place", y.wrongStamps(), 1);
    }

    /** Two networks have the same calls, and one of them is asked all queries between each two. */
    private static void queriesChangeNothing() {
        Check.sentence("The interface: queries change nothing");
        MeterNetwork asked = new MeterNetwork();
        MeterNetwork other = new MeterNetwork();
        for (MeterNetwork x : new MeterNetwork[] {asked, other}) {
            Check.write(x, "+01;+12;+23;t3,5;t2,6;r7;!1;r31;!1;t1,7;-01");
            for (int round = 0; round < 4; round++) {
                if (x == asked) {
                    Check.picture(x);
                }
                x.runText();
                x.jump(2, 30);
                x.setFaults(3, 2);
                if (x == asked) {
                    Check.picture(x);
                }
                x.run(23);
            }
        }
        Check.same("the state", Check.picture(asked), Check.picture(other));
        Check.same("the saved states", Check.savedIn(asked), Check.savedIn(other));
    }
}
