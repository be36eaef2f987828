/** Full and empty: stores, the sixty readings, the text, the saved states; and all or none of the nodes. */
public final class LimitsTest {
    public static void main(String[] args) {
        Check.test(LimitsTest::aFullStoreTakesNothing);
        Check.test(LimitsTest::aFullStoreOfOthersReadings);
        Check.test(LimitsTest::sixtyReadings);
        Check.test(LimitsTest::sixtyReadingsInATextAndAfterUndo);
        Check.test(LimitsTest::aParentWithFiveAndWithSix);
        Check.test(LimitsTest::theCollectorHasNoLimit);
        Check.test(LimitsTest::anEmptyStoreSendsNothing);
        Check.test(LimitsTest::aFullText);
        Check.test(LimitsTest::anEmptyText);
        Check.test(LimitsTest::noSavedState);
        Check.test(LimitsTest::sixSavedStates);
        Check.test(LimitsTest::theOldestIsDiscarded);
        Check.test(LimitsTest::savedAlsoIfNothingChanges);
        Check.test(LimitsTest::savedAlsoIfNoCommandIsExecuted);
        Check.test(LimitsTest::undoableAsOneCall);
        Check.test(LimitsTest::notUndoable);
        Check.test(LimitsTest::allThatUndoRestores);
        Check.test(LimitsTest::allAndNone);
        Check.test(LimitsTest::allReadingsAtOnce);
        Check.test(LimitsTest::fiveHundredAndTwelveCalls);
        Check.finish();
    }

    private static void aFullStoreTakesNothing() {
        Check.sentence("Promise 7: if the store of the meter has six readings");
        MeterNetwork x = Check.chain(0, 9);
        for (int number = 0; number < 5; number++) {
            x.take(9, number);
        }
        Check.same("with five readings", x.take(9, 5), 5);
        Check.same("six readings", x.stored(9), 6);
        Check.state("with six readings", x, () -> x.take(9, 6));
        Check.same("another store", x.take(8, 6), 0);
        x.run(10);
        Check.same("five again", x.stored(9), 5);
        Check.same("the number goes on", x.take(9, 6), 6);
        Check.state("with six again", x, () -> x.take(9, 7));
    }

    private static void aFullStoreOfOthersReadings() {
        Check.sentence("Section 3: at most six readings, its own ones and others");
        MeterNetwork x = Check.chain(0, 1, 2);
        x.setPatience(5);
        x.run(2);
        x.power(0, false);
        for (int value = 0; value < 5; value++) {
            x.take(2, value);
        }
        x.run(40);
        Check.same("four others' readings", x.stored(1), 4);
        Check.same("an own one as the fifth", x.take(1, 50), 0);
        x.run(1);
        Check.same("an other one as the sixth", x.storedReading(1, 5, 0), 2);
        Check.state("an own one as the seventh", x, () -> x.take(1, 51));
        MeterNetwork y = Check.chain(0, 1, 2);
        y.link(1, 3, true);
        y.run(2);
        y.power(0, false);
        for (int value = 0; value < 3; value++) {
            y.take(2, value);
            y.take(3, value);
        }
        y.setPatience(3);
        y.run(22);
        Check.same("six others' readings", y.stored(1), 6);
        Check.same("none of its own", y.copies(1, 0), -1);
        Check.state("the first of its own", y, () -> y.take(1, 1));
    }

    private static void sixtyReadings() {
        Check.sentence("Promise 7: if 60 readings have been taken");
        MeterNetwork x = Check.chain(0, 5);
        x.run(10);
        for (int number = 0; number < 59; number++) {
            Check.same("number", x.take(5, number), number);
            x.run(10);
        }
        Check.same("59 are taken and collected", x.count(0) + x.collected(), 118);
        Check.same("the sixtieth", x.take(4, 7), 0);
        Check.state("at the meter that took 59", x, () -> x.take(5, 8));
        Check.state("at the meter that took one", x, () -> x.take(4, 8));
        Check.state("at a meter that took none", x, () -> x.take(9, 8));
        x.link(4, 5, true);
        x.run(100);
        Check.same("all are collected", x.missing(), 0);
        Check.state("also if all are collected", x, () -> x.take(5, 8));
    }

    private static void sixtyReadingsInATextAndAfterUndo() {
        MeterNetwork x = Check.chain(0, 5);
        x.run(10);
        for (int number = 0; number < 58; number++) {
            x.take(5, number);
            x.run(10);
        }
        Check.sentence("Promise 12: ends before the first command for which the method would throw: sixty");
        Check.write(x, "t1,1;t2,2;t3,3;r5");
        Check.same("the 59th and the 60th", x.runText(), 2);
        Check.same("not the 61st", x.stored(3), 0);
        Check.same("nor what comes behind it", x.time(), 590);
        Check.sentence("Promise 7: if 60 readings have been taken: not those that are undone");
        x.undo();
        Check.same("58", x.count(0), 58);
        Check.same("the 59th once more", x.take(3, 1), 0);
        Check.same("the 60th once more", x.take(3, 2), 1);
        Check.state("the 61st", x, () -> x.take(3, 3));
        x.undo();
        Check.same("the 60th elsewhere", x.take(4, 3), 0);
        Check.state("the 61st elsewhere", x, () -> x.take(4, 4));
    }

    /** 2 hears 1 in the slot 1 and sends in the slot 2; the collector is off, so that 1 keeps all. */
    private static MeterNetwork filled(int readings) {
        MeterNetwork x = Check.chain(0, 1, 2);
        x.run(2);
        x.power(0, false);
        for (int value = 0; value < readings; value++) {
            x.take(1, value);
        }
        x.take(2, 99);
        x.run(1);
        return x;
    }

    private static void aParentWithFiveAndWithSix() {
        Check.sentence("Section 4 c: if the store of p has six readings, the reading is refused");
        MeterNetwork five = filled(5);
        Check.same("five: not refused", five.count(3), 0);
        Check.same("five: added", Check.stored(five, 1, 5), "2/0/99/2/2");
        Check.same("five: removed from n", five.stored(2), 0);
        MeterNetwork six = filled(6);
        Check.same("six: refused", six.count(3), 1);
        Check.same("six: nothing is added", six.stored(1), 6);
        Check.same("six: kept at n", Check.stored(six, 2, 0), "2/0/99/2/2");
        Check.same("six: sent", six.count(1), 1);
        six.power(0, true);
        six.run(10);
        Check.same("not refused when there is room again", six.count(3), 1);
        Check.same("added then", Check.stored(six, 1, 5), "2/0/99/2/2");
    }

    private static void theCollectorHasNoLimit() {
        Check.sentence("Section 4 c: a collector does not refuse, also beyond six readings");
        MeterNetwork x = Check.chain(0, 1, 2);
        for (int value = 0; value < 6; value++) {
            x.take(1, value);
            x.take(2, value);
        }
        x.run(100);
        x.run(30);
        Check.same("collected", x.collected(), 12);
        MeterNetwork y = Check.chain(0, 1);
        y.run(10);
        for (int value = 0; value < 60; value++) {
            y.take(1, value);
            Check.same("one comes in", y.run(10), 1);
        }
        Check.same("sixty", y.collected(), 60);
        Check.same("none was refused", y.count(3), 0);
        Check.same("the last one", Check.collected(y, 59), "1/59/59/600/600");
    }

    private static void anEmptyStoreSendsNothing() {
        Check.sentence("Section 4 c: and the store of n is not empty");
        MeterNetwork x = Check.chain(0, 1);
        x.setFaults(1, 5);
        x.run(50);
        Check.same("nothing is sent", x.count(1), 0);
        Check.same("no fault is used", x.faults(1), 5);
        Check.same("nothing is collected", x.collected(), 0);
    }

    private static void aFullText() {
        Check.sentence("Promise 9: if the text has 80 characters");
        MeterNetwork x = new MeterNetwork();
        for (int length = 1; length <= 79; length++) {
            x.appendText('a');
        }
        Check.same("the 80th", x.appendText('a'), 80);
        Check.state("the 81st", x, () -> x.appendText('a'));
        Check.sentence("Promise 10: a full text is emptied");
        Check.same("its length", x.clearText(), 80);
        Check.same("no longer full", x.appendText('a'), 1);
        Check.sentence("Section 6: the text buffer holds at most 80 characters: all of them are executed");
        StringBuilder text = new StringBuilder("!1");
        while (text.length() < 80) {
            text.append(";!1");
        }
        Check.write(x, text.toString());
        Check.same("commands", x.runText(), 27);
        Check.same("an odd number of switches", x.power(2, true), 9);
    }

    private static void anEmptyText() {
        Check.sentence("Promise 10: a clear of an empty text");
        MeterNetwork x = new MeterNetwork();
        Check.same("a new one", x.clearText(), 0);
        Check.same("its length", x.textLength(), 0);
        x.appendText('r');
        Check.same("one character", x.clearText(), 1);
        Check.same("twice", x.clearText(), 0);
        Check.same("its length then", x.textLength(), 0);
        Check.sentence("Section 6: the text buffer is empty at first; an empty text is not valid");
        Check.state("runText", x, () -> x.runText());
    }

    private static void noSavedState() {
        Check.sentence("Promise 13: throws IllegalStateException if there is no saved state");
        MeterNetwork x = new MeterNetwork();
        Check.state("a new object", x, () -> x.undo());
        x.run(3);
        Check.same("one saved state", x.undo(), 0);
        Check.state("used up", x, () -> x.undo());
        for (int call = 0; call < 9; call++) {
            x.run(1);
        }
        for (int left = 5; left >= 0; left--) {
            Check.same("that remain", x.undo(), left);
        }
        Check.state("used up after a discarded one", x, () -> x.undo());
    }

    private static void sixSavedStates() {
        Check.sentence("Section 7: at most 6 states are saved");
        MeterNetwork x = new MeterNetwork();
        for (int call = 1; call <= 20; call++) {
            x.run(call);
            Check.same("saved", x.savedStates(), Math.min(call, 6));
        }
    }

    /** The time tells which state it is: before the call k it is k - 1. */
    private static void theOldestIsDiscarded() {
        Check.sentence("Section 7: when a seventh state is saved, the oldest saved state is discarded");
        for (int calls = 1; calls <= 20; calls++) {
            MeterNetwork x = new MeterNetwork();
            for (int call = 1; call <= calls; call++) {
                x.run(1);
            }
            int oldest = Math.max(0, calls - 6);
            for (int time = calls - 1; time >= oldest; time--) {
                Check.same("that remain of " + calls, x.undo(), time - oldest);
                Check.same("the time of " + calls, x.time(), time);
            }
            Check.same("none is left of " + calls, x.savedStates(), 0);
        }
        Check.sentence("Promise 13: removes it from the saved states: others are saved in its place");
        MeterNetwork x = new MeterNetwork();
        for (int call = 1; call <= 8; call++) {
            x.run(1);
        }
        x.undo();
        x.undo();
        for (int call = 0; call < 4; call++) {
            x.run(10);
        }
        int[] times = {36, 26, 16, 6, 5, 4};
        for (int i = 0; i < 6; i++) {
            Check.same("that remain", x.undo(), 5 - i);
            Check.same("the time", x.time(), times[i]);
        }
    }

    private static void savedAlsoIfNothingChanges() {
        Check.sentence("Section 7: it is saved even if the call changes nothing");
        MeterNetwork x = Check.chain(0, 1);
        x.link(0, 1, true);
        Check.same("link, there already", x.savedStates(), 2);
        x.link(3, 2, false);
        Check.same("link, not there", x.savedStates(), 3);
        x.power(4, true);
        Check.same("power, on already", x.savedStates(), 4);
        x.jump(3, 0);
        Check.same("jump by 0", x.savedStates(), 5);
        x.setFaults(3, 0);
        Check.same("setFaults, the same", x.savedStates(), 6);
        Check.same("undo: setFaults", x.undo(), 5);
        x.setPatience(2);
        Check.same("setPatience, the same", x.savedStates(), 6);
        x.power(5, false);
        x.power(5, false);
        x.undo();
        Check.same("power, off already", x.power(6, true), 9);
        Check.sentence("Section 7: it is saved even if the call changes nothing: the oldest is discarded");
        MeterNetwork y = new MeterNetwork();
        y.run(1);
        for (int call = 0; call < 6; call++) {
            y.link(0, 1, false);
        }
        for (int left = 5; left >= 0; left--) {
            Check.same("that remain", y.undo(), left);
            Check.same("the time", y.time(), 1);
        }
    }

    private static void savedAlsoIfNoCommandIsExecuted() {
        Check.sentence("Promise 12: undoable, as one call, also if no command is executed");
        MeterNetwork x = new MeterNetwork();
        Check.write(x, "t1,1;t1,2;t1,3;t1,4;t1,5;t1,6");
        Check.same("all six", x.runText(), 6);
        Check.same("the store is full", x.runText(), 0);
        Check.same("saved", x.savedStates(), 2);
        Check.same("undone", x.undo(), 1);
        Check.same("what was there before it", x.stored(1), 6);
        Check.same("the other one", x.undo(), 0);
        Check.same("what was there before that", x.stored(1), 0);
        x.runText();
        for (int call = 0; call < 5; call++) {
            x.run(1);
        }
        Check.same("six are saved", x.savedStates(), 6);
        Check.same("none is executed", x.runText(), 0);
        Check.same("six are saved still", x.savedStates(), 6);
        for (int time = 5; time >= 0; time--) {
            x.undo();
            Check.same("the time", x.time(), time);
        }
        Check.state("the oldest of them is discarded", x, () -> x.undo());
    }

    private static void undoableAsOneCall() {
        Check.sentence("Promise 8: undoable, as one call");
        MeterNetwork x = new MeterNetwork();
        x.run(100);
        Check.same("saved", x.savedStates(), 1);
        Check.same("undone", x.undo(), 0);
        Check.same("the time", x.time(), 0);
        Check.sentence("Promise 12: undoable, as one call");
        Check.write(x, "r1;r2;+01;r3;!4;t5,6;r4;-01");
        Check.same("commands", x.runText(), 8);
        Check.same("saved", x.savedStates(), 1);
        Check.same("undone", x.undo(), 0);
        Check.same("the time", x.time(), 0);
        Check.same("the readings", x.count(0), 0);
    }

    private static void notUndoable() {
        Check.sentence("Section 7: only what is marked Undoable saves the state");
        MeterNetwork x = Check.chain(0, 1);
        x.appendText('r');
        x.errorPosition();
        x.clearText();
        x.slotsToCollect();
        x.ifRun(100);
        Check.picture(x);
        Check.same("saved", x.savedStates(), 1);
        x.undo();
        Check.same("undo saves nothing", x.savedStates(), 0);
        Check.sentence("Section 7: the state consists of everything in sections 1 to 5 and the counts: not the text");
        x.appendText('r');
        x.run(1);
        x.appendText('7');
        x.undo();
        Check.same("the length", x.textLength(), 2);
        x.runText();
        x.clearText();
        x.undo();
        Check.same("cleared", x.textLength(), 0);
    }

    private static void allThatUndoRestores() {
        Check.sentence("Promise 13: restores the state that was saved last: everything in sections 1 to 5");
        MeterNetwork x = halfWay();
        MeterNetwork y = halfWay();
        Check.write(x, "t1,1;r10;!0;+13;t1,2;t1,3;t1,4;t1,5;t3,8;r30");
        Check.same("executed", x.runText(), 10);
        for (int what = 0; what <= 5; what++) {
            Check.same("the count " + what + " has changed", x.count(what) > y.count(what), true);
        }
        x.undo();
        x.clearText();
        x.setPatience(1);
        x.undo();
        x.setFaults(2, 9);
        x.undo();
        x.jump(2, -50);
        x.undo();
        Check.same("all of it", Check.stateOf(x) + Check.hiddenIn(x), Check.stateOf(y) + Check.hiddenIn(y));
    }

    /** 2 has sent a reading twice, and 1 has it once more; two acknowledgements are lost, three faults are left. */
    private static MeterNetwork halfWay() {
        MeterNetwork x = Check.chain(0, 1, 2);
        x.setPatience(3);
        x.setFaults(2, 5);
        x.jump(1, 7);
        x.take(2, 5);
        x.take(1, 6);
        x.run(13);
        return x;
    }

    private static void allAndNone() {
        Check.sentence("Promise 3: returns the number of nodes that are on: none and all");
        MeterNetwork x = Check.chain(0, 1);
        for (int node = 0; node <= 9; node++) {
            Check.same("off", x.power(node, false), 9 - node);
        }
        for (int node = 0; node <= 9; node++) {
            Check.same("on", x.power(node, true), node + 1);
        }
        Check.sentence("Promise 2: returns the number of links: none and all");
        MeterNetwork y = new MeterNetwork();
        int links = 0;
        for (int a = 9; a >= 0; a--) {
            for (int b = 0; b < a; b++) {
                links++;
                Check.same("made", y.link(a, b, true), links);
            }
        }
        Check.same("all", links, 45);
        for (int a = 0; a <= 9; a++) {
            for (int b = a + 1; b <= 9; b++) {
                links--;
                Check.same("removed", y.link(a, b, false), links);
            }
        }
        Check.sentence("Promise 32: the number of meters that have a parent, divided by 9.0: none and all");
        MeterNetwork z = new MeterNetwork();
        Check.same("none", z.joined(), 0.0);
        for (int meter = 1; meter <= 9; meter++) {
            z.link(0, meter, true);
        }
        z.run(1);
        Check.same("all", z.joined(), 1.0);
        z.undo();
        z.link(0, 9, false);
        z.run(1);
        Check.same("eight", z.joined(), 8.0 / 9.0);
    }

    private static void allReadingsAtOnce() {
        Check.sentence("Promise 8: returns the number of readings that are collected in these slots: none and all");
        MeterNetwork x = new MeterNetwork();
        for (int meter = 1; meter <= 9; meter++) {
            x.link(0, meter, true);
            for (int value = 0; value < 6; value++) {
                x.take(meter, value);
            }
        }
        Check.same("how many slots it takes", x.slotsToCollect(), 60);
        Check.same("told in advance", x.ifRun(100), 54);
        Check.same("none in the slot of the collector", x.run(1), 0);
        Check.same("all", x.run(100), 54);
        Check.same("none any more", x.run(100), 0);
    }

    private static void fiveHundredAndTwelveCalls() {
        Check.sentence("An object is used for at most 512 calls: the last one is answered as the first");
        MeterNetwork x = new MeterNetwork();
        x.link(0, 9, true);
        x.jump(9, -100);
        for (int call = 3; call <= 508; call++) {
            x.run(100);
        }
        Check.same("the time", x.time(), 50600);
        Check.same("the clock", x.clock(9), 50600);
        Check.same("the last reading", x.take(9, 1), 0);
        Check.same("comes in", x.run(100), 1);
        MeterNetwork y = new MeterNetwork();
        for (int call = 1; call <= 511; call++) {
            y.jump(9, -100);
        }
        Check.same("far back", y.clock(9), -51100);
    }
}
