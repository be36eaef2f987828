import java.util.function.Consumer;
import java.util.function.Supplier;

/** Section 8: which exception is thrown if several apply, and that a call that throws changes nothing. */
public final class RefusalsTest {
    private static final Class<?> INDEX = IndexOutOfBoundsException.class;
    private static final Class<?> ARGUMENT = IllegalArgumentException.class;
    private static final Class<?> STATE = IllegalStateException.class;

    public static void main(String[] args) {
        Check.test(RefusalsTest::theWornNetwork);
        Check.test(RefusalsTest::theExceptionThatIsNamedFirst);
        Check.test(RefusalsTest::theTwoNodesOfALink);
        Check.test(RefusalsTest::refusedSettings);
        Check.test(RefusalsTest::refusedReadingsAndSlots);
        Check.test(RefusalsTest::refusedTexts);
        Check.test(RefusalsTest::refusedUndo);
        Check.test(RefusalsTest::refusedQueries);
        Check.finish();
    }

    /** A network in use whose saved states are used up. */
    private static MeterNetwork withoutSavedStates() {
        MeterNetwork x = Check.chain(0, 1, 2, 3);
        x.setPatience(4);
        x.setFaults(2, 3);
        x.jump(3, 9);
        x.take(3, 17);
        x.run(14);
        for (int call = 0; call < 6; call++) {
            x.run(1);
        }
        for (int call = 0; call < 6; call++) {
            x.undo();
        }
        Check.write(x, "t2,7;!3;-01;r30");
        return x;
    }

    /** A network in use, with three saved states and a valid text. */
    private static MeterNetwork used() {
        MeterNetwork x = withoutSavedStates();
        x.link(2, 5, true);
        x.run(14);
        x.power(4, false);
        return x;
    }

    /** Six saved states that all differ, 60 readings, a full store at 2 and none at 9, a full text. */
    private static MeterNetwork worn() {
        MeterNetwork x = Check.chain(0, 1);
        for (int reading = 0; reading < 54; reading++) {
            x.take(1, reading);
            x.run(10);
        }
        x.power(7, false);
        for (int value = 0; value < 6; value++) {
            x.take(2, value);
        }
        x.setPatience(5);
        x.setFaults(2, 9);
        x.link(1, 2, true);
        x.run(13);
        x.jump(2, 40);
        x.run(21);
        StringBuilder text = new StringBuilder("+23;t2,1");
        while (text.length() < 80) {
            text.append(text.length() == 76 ? ";r55" : ";r6");
        }
        Check.write(x, text.toString());
        return x;
    }

    private static void theWornNetwork() {
        MeterNetwork x = worn();
        Check.same("readings", x.count(0), 60);
        Check.same("a full store", x.stored(2), 6);
        Check.same("an empty store", x.stored(9), 0);
        Check.same("a full text", x.textLength(), 80);
        Check.same("a valid text", x.errorPosition(), -1);
        Check.same("saved states", x.savedStates(), 6);
    }

    /** As worn(), but for a text that is not valid. */
    private static MeterNetwork wornWithAWrongText() {
        MeterNetwork x = worn();
        Check.write(x, "r9;t2,1000");
        return x;
    }

    private static MeterNetwork withoutText() {
        MeterNetwork x = used();
        x.clearText();
        return x;
    }

    /** The text lacks only its end. */
    private static MeterNetwork withAnUnfinishedText() {
        MeterNetwork x = used();
        Check.write(x, "r5;t1,");
        return x;
    }

    private static MeterNetwork withAFullStore() {
        MeterNetwork x = used();
        for (int value = 0; value < 6; value++) {
            x.take(8, value);
        }
        return x;
    }

    private static void first(String call, Class<?> due, Consumer<MeterNetwork> refused) {
        Check.sentence("Section 8: the one that is named first in the throws clause is thrown: " + call);
        MeterNetwork x = worn();
        Check.throwsExactly(call, due, () -> refused.accept(x));
    }

    private static void theExceptionThatIsNamedFirst() {
        first("link", INDEX, x -> x.link(10, 10, true));
        first("link", INDEX, x -> x.link(-1, -1, false));
        first("jump", INDEX, x -> x.jump(0, 101));
        first("jump", INDEX, x -> x.jump(10, -101));
        first("setFaults", INDEX, x -> x.setFaults(0, 10));
        first("setFaults", INDEX, x -> x.setFaults(10, -1));
        first("take, a meter and a value", INDEX, x -> x.take(0, 1000));
        first("take, a meter and a value", INDEX, x -> x.take(10, -1));
        first("take, a meter and sixty readings", INDEX, x -> x.take(10, 5));
        first("take, a meter and sixty readings", INDEX, x -> x.take(0, 5));
        first("take, a value and a full store", ARGUMENT, x -> x.take(2, 1000));
        first("take, a value and sixty readings", ARGUMENT, x -> x.take(9, -1));
        first("take, a full store and sixty readings", STATE, x -> x.take(2, 999));
        first("appendText", ARGUMENT, x -> x.appendText(127));
        first("appendText", ARGUMENT, x -> x.appendText(31));
        first("storedReading, a meter and a part", INDEX, x -> x.storedReading(0, 0, 5));
        first("storedReading, a meter and a part", INDEX, x -> x.storedReading(10, 0, -1));
        first("storedReading, an index and a part", INDEX, x -> x.storedReading(1, -1, 5));
        first("storedReading, an index and a part", INDEX, x -> x.storedReading(9, -1, -1));
        first("collectedReading", INDEX, x -> x.collectedReading(-1, 5));
        first("collectedReading", INDEX, x -> x.collectedReading(-1, -1));
    }

    /** Both exceptions of link() can be told apart also where one node alone is wrong. */
    private static void theTwoNodesOfALink() {
        first("link, a alone", INDEX, x -> x.link(10, 9, true));
        first("link, b alone", INDEX, x -> x.link(9, 10, true));
        first("link, neither", ARGUMENT, x -> x.link(9, 9, true));
        first("isConnected, the same node", INDEX, x -> x.isConnected(10, 10));
    }

    private static void nothing(String call, Class<?> due, Supplier<MeterNetwork> maker,
            Consumer<MeterNetwork> refused) {
        Check.sentence("Section 8: a call that throws an exception changes nothing: " + call);
        Check.refusedWithoutTrace(call, maker, due, refused);
    }

    private static void nothing(String call, Class<?> due, Consumer<MeterNetwork> refused) {
        nothing(call, due, RefusalsTest::used, refused);
        nothing(call, due, RefusalsTest::worn, refused);
    }

    private static void refusedSettings() {
        nothing("link", INDEX, x -> x.link(10, 4, true));
        nothing("link", INDEX, x -> x.link(4, 10, true));
        nothing("link", INDEX, x -> x.link(0, -1, false));
        nothing("link, both the same", ARGUMENT, x -> x.link(1, 1, true));
        nothing("power", INDEX, x -> x.power(10, false));
        nothing("jump", INDEX, x -> x.jump(0, 5));
        nothing("jump, an amount", ARGUMENT, x -> x.jump(2, 101));
        nothing("jump, an amount", ARGUMENT, x -> x.jump(2, -101));
        nothing("setFaults", INDEX, x -> x.setFaults(0, 5));
        nothing("setFaults, a count", ARGUMENT, x -> x.setFaults(2, 10));
        nothing("setFaults, a count", ARGUMENT, x -> x.setFaults(2, -1));
        nothing("setPatience", ARGUMENT, x -> x.setPatience(0));
        nothing("setPatience", ARGUMENT, x -> x.setPatience(6));
    }

    private static void refusedReadingsAndSlots() {
        nothing("take", INDEX, x -> x.take(0, 5));
        nothing("take, a value", ARGUMENT, x -> x.take(9, 1000));
        nothing("take, a full store", STATE, RefusalsTest::withAFullStore, x -> x.take(8, 5));
        nothing("take, sixty readings", STATE, RefusalsTest::worn, x -> x.take(9, 5));
        nothing("run", ARGUMENT, x -> x.run(0));
        nothing("run", ARGUMENT, x -> x.run(101));
    }

    private static void refusedTexts() {
        nothing("appendText", ARGUMENT, x -> x.appendText(31));
        nothing("appendText", ARGUMENT, x -> x.appendText(127));
        nothing("appendText, a full text", STATE, RefusalsTest::worn, x -> x.appendText('0'));
        nothing("runText", STATE, RefusalsTest::withoutText, x -> x.runText());
        nothing("runText", STATE, RefusalsTest::withAnUnfinishedText, x -> x.runText());
        nothing("runText", STATE, RefusalsTest::wornWithAWrongText, x -> x.runText());
        Check.sentence("Section 8: a call that throws an exception changes nothing: the signs of the text");
        MeterNetwork x = withAnUnfinishedText();
        Check.throwsExactly("runText", STATE, () -> x.runText());
        Check.throwsExactly("appendText", ARGUMENT, () -> x.appendText(127));
        x.appendText('8');
        Check.same("executed", x.runText(), 2);
        Check.same("the value that was written", x.storedReading(1, x.stored(1) - 1, 2), 8);
    }

    private static void refusedUndo() {
        nothing("undo", STATE, RefusalsTest::withoutSavedStates, x -> x.undo());
        nothing("undo", STATE, MeterNetwork::new, x -> x.undo());
    }

    private static void refusedQueries() {
        nothing("isConnected", INDEX, x -> x.isConnected(0, 10));
        nothing("parent", INDEX, x -> x.parent(10));
        nothing("depth", INDEX, x -> x.depth(10));
        nothing("clock", INDEX, x -> x.clock(10));
        nothing("silence", INDEX, x -> x.silence(0));
        nothing("faults", INDEX, x -> x.faults(0));
        nothing("hops", INDEX, x -> x.hops(10));
        nothing("stored", INDEX, x -> x.stored(0));
        nothing("storedReading", INDEX, x -> x.storedReading(2, -1, 0));
        nothing("storedReading", ARGUMENT, x -> x.storedReading(2, 0, 5));
        nothing("collectedReading", INDEX, x -> x.collectedReading(-1, 0));
        nothing("collectedReading", ARGUMENT, x -> x.collectedReading(0, 5));
        nothing("copies", INDEX, x -> x.copies(0, 0));
        nothing("ifRun", ARGUMENT, x -> x.ifRun(101));
        nothing("count", ARGUMENT, x -> x.count(6));
    }
}
