/**
 * The range of every argument: all that lies in it is taken, the least and the greatest with their
 * answers, and what lies one below, one above or far away is refused with the exception that the
 * promise names.
 */
public final class RangesTest {
    private static final Class<?> INDEX = IndexOutOfBoundsException.class;
    private static final Class<?> ARGUMENT = IllegalArgumentException.class;

    /** A call whose argument is tried out, the other ones being right. */
    private interface Call {
        int with(MeterNetwork x, int argument);
    }

    public static void main(String[] args) {
        Check.test(RangesTest::nodesAndLinks);
        Check.test(RangesTest::settings);
        Check.test(RangesTest::readingsAndSlots);
        Check.test(RangesTest::texts);
        Check.test(RangesTest::queriesAboutNodes);
        Check.test(RangesTest::queriesAboutReadings);
        Check.test(RangesTest::negativeIndices);
        Check.test(RangesTest::whatWouldHappenAndCounts);
        Check.finish();
    }

    private static void range(String sentence, int least, int most, Class<?> due, Call call) {
        Check.sentence(sentence);
        Check.test(() -> inside(least, most, call));
        int[] arguments = {least - 1, most + 1, -most - 1, least + 65536, most + 256, Integer.MIN_VALUE,
            Integer.MAX_VALUE};
        for (int argument : arguments) {
            if (argument < least || argument > most) {
                MeterNetwork x = network();
                Check.test(() -> Check.refused("the argument " + argument, x, due, () -> call.with(x, argument)));
            }
        }
    }

    private static void inside(int least, int most, Call call) {
        for (int argument = least; argument <= most; argument++) {
            call.with(network(), argument);
        }
    }

    private static void answers(int least, int leastAnswer, int most, int mostAnswer, Call call) {
        Check.test(() -> Check.same("the least", call.with(network(), least), leastAnswer));
        Check.test(() -> Check.same("the greatest", call.with(network(), most), mostAnswer));
    }

    /**
     * The nodes in a row, each with its parent, at the time 10; 1 and 9 differ in all that is asked.
     * In the next 100 slots 9 sends its first reading six times, so that its second one stays on the way.
     */
    private static MeterNetwork network() {
        MeterNetwork x = Check.chain(0, 1, 2, 3, 4, 5, 6, 7, 8, 9);
        x.take(1, 700);
        x.run(10);
        x.take(1, 11);
        x.take(9, 99);
        x.take(9, 98);
        x.setFaults(1, 4);
        x.setFaults(9, 5);
        x.jump(1, 20);
        x.jump(9, -30);
        return x;
    }

    private static void nodesAndLinks() {
        range("Promise 2: a: 0 to 9", 0, 9, INDEX, (x, a) -> x.link(a, a == 5 ? 2 : 5, true));
        answers(0, 10, 9, 10, (x, a) -> x.link(a, 5, true));
        answers(0, 8, 9, 8, (x, a) -> x.link(a, a == 0 ? 1 : 8, false));
        range("Promise 2: b: 0 to 9", 0, 9, INDEX, (x, b) -> x.link(b == 5 ? 2 : 5, b, true));
        answers(0, 10, 9, 10, (x, b) -> x.link(5, b, true));
        answers(0, 8, 9, 8, (x, b) -> x.link(b == 0 ? 1 : 8, b, false));
        Check.sentence("Promise 2: b: not the same as a");
        for (int node = 0; node <= 9; node++) {
            int both = node;
            MeterNetwork x = network();
            Check.argument("both are " + node, x, () -> x.link(both, both, true));
            Check.argument("both are " + node + ", off", x, () -> x.link(both, both, false));
        }
        range("Promise 3: node: 0 to 9", 0, 9, INDEX, (x, node) -> x.power(node, false));
        answers(0, 9, 9, 9, (x, node) -> x.power(node, false));
    }

    private static void settings() {
        range("Promise 4: meter: 1 to 9", 1, 9, INDEX, (x, meter) -> x.jump(meter, 1));
        answers(1, 21, 9, -29, (x, meter) -> x.jump(meter, 1));
        range("Promise 4: slots: -100 to 100", -100, 100, ARGUMENT, (x, slots) -> x.jump(3, slots));
        answers(-100, -100, 100, 100, (x, slots) -> x.jump(3, slots));
        range("Promise 5: meter: 1 to 9", 1, 9, INDEX, (x, meter) -> x.setFaults(meter, 2));
        answers(1, 4, 9, 5, (x, meter) -> x.setFaults(meter, 2));
        range("Promise 5: count: 0 to 9", 0, 9, ARGUMENT, (x, count) -> x.setFaults(3, count));
        answers(0, 0, 9, 9, (x, count) -> x.setFaults(3, count) + x.faults(3));
        range("Promise 6: rounds: 1 to 5", 1, 5, ARGUMENT, (x, rounds) -> x.setPatience(rounds));
        answers(1, 1, 5, 5, (x, rounds) -> x.setPatience(rounds) - 2 + x.setPatience(3));
    }

    private static void readingsAndSlots() {
        range("Promise 7: meter: 1 to 9", 1, 9, INDEX, (x, meter) -> x.take(meter, 5));
        answers(1, 2, 9, 2, (x, meter) -> x.take(meter, 5));
        range("Promise 7: value: 0 to 999", 0, 999, ARGUMENT, (x, value) -> x.take(4, value));
        answers(0, 0, 999, 999, (x, value) -> x.take(4, value) + x.storedReading(4, 0, 2));
        range("Promise 8: slots: 1 to 100", 1, 100, ARGUMENT, (x, slots) -> x.run(slots));
        answers(1, 0, 100, 2, (x, slots) -> x.run(slots));
        answers(1, 11, 100, 110, (x, slots) -> x.run(slots) * 0 + x.time());
    }

    private static void texts() {
        range("Promise 9: character: 32 to 126", 32, 126, ARGUMENT, (x, sign) -> x.appendText(sign));
        answers(32, 1, 126, 1, (x, sign) -> x.appendText(sign));
    }

    private static void queriesAboutNodes() {
        range("Promise 14: a: 0 to 9", 0, 9, INDEX, (x, a) -> x.isConnected(a, 1) ? 1 : 0);
        answers(0, 1, 9, 1, (x, a) -> x.isConnected(a, a == 0 ? 1 : 8) ? 1 : 0);
        range("Promise 14: b: 0 to 9", 0, 9, INDEX, (x, b) -> x.isConnected(1, b) ? 1 : 0);
        answers(0, 1, 9, 1, (x, b) -> x.isConnected(b == 0 ? 1 : 8, b) ? 1 : 0);
        range("Promise 15: node: 0 to 9", 0, 9, INDEX, (x, node) -> x.parent(node));
        answers(0, -1, 9, 8, (x, node) -> x.parent(node));
        range("Promise 16: node: 0 to 9", 0, 9, INDEX, (x, node) -> x.depth(node));
        answers(0, 0, 9, 9, (x, node) -> x.depth(node));
        range("Promise 17: node: 0 to 9", 0, 9, INDEX, (x, node) -> x.clock(node));
        answers(0, 10, 9, -20, (x, node) -> x.clock(node));
        range("Promise 18: meter: 1 to 9", 1, 9, INDEX, (x, meter) -> x.silence(meter));
        answers(1, 10, 9, 2, (x, meter) -> x.silence(meter));
        range("Promise 19: meter: 1 to 9", 1, 9, INDEX, (x, meter) -> x.faults(meter));
        answers(1, 4, 9, 5, (x, meter) -> x.faults(meter));
        range("Promise 20: node: 0 to 9", 0, 9, INDEX, (x, node) -> x.hops(node));
        answers(0, 0, 9, 9, (x, node) -> x.hops(node));
    }

    private static void queriesAboutReadings() {
        range("Promise 21: meter: 1 to 9", 1, 9, INDEX, (x, meter) -> x.stored(meter));
        answers(1, 1, 9, 2, (x, meter) -> x.stored(meter));
        range("Promise 22: meter: 1 to 9", 1, 9, INDEX, (x, meter) -> x.storedReading(meter, 0, 0));
        answers(1, 11, 9, 99, (x, meter) -> x.storedReading(meter, 0, 2));
        range("Promise 22: part: 0 to 4", 0, 4, ARGUMENT, (x, part) -> x.storedReading(9, 1, part));
        answers(0, 9, 4, 10, (x, part) -> x.storedReading(9, 1, part));
        answers(1, 1, 3, 10, (x, part) -> x.storedReading(9, 1, part));
        range("Promise 24: part: 0 to 4", 0, 4, ARGUMENT, (x, part) -> x.collectedReading(0, part));
        answers(0, 1, 4, 0, (x, part) -> x.collectedReading(0, part));
        answers(1, 0, 2, 700, (x, part) -> x.collectedReading(0, part));
        range("Promise 25: meter: 1 to 9", 1, 9, INDEX, (x, meter) -> x.copies(meter, 0));
        answers(1, 0, 9, 1, (x, meter) -> x.copies(meter, 0));
    }

    /** There is no index that is too large, and no number of a reading that is wrong. */
    private static void negativeIndices() {
        Check.sentence("Promise 22: the index is negative");
        MeterNetwork x = network();
        Check.index("-1", x, () -> x.storedReading(9, -1, 0));
        Check.index("the least int", x, () -> x.storedReading(9, Integer.MIN_VALUE, 0));
        Check.test(() -> Check.same("0", x.storedReading(9, 0, 2), 99));
        Check.test(() -> Check.same("the greatest int", x.storedReading(9, Integer.MAX_VALUE, 2), -1));
        Check.sentence("Promise 24: the index is negative");
        Check.index("-1", x, () -> x.collectedReading(-1, 0));
        Check.index("the least int", x, () -> x.collectedReading(Integer.MIN_VALUE, 0));
        Check.test(() -> Check.same("0", x.collectedReading(0, 2), 700));
        Check.test(() -> Check.same("the greatest int", x.collectedReading(Integer.MAX_VALUE, 2), -1));
        Check.sentence("Promise 25: any number of a reading may be asked for");
        for (int number : new int[] {Integer.MIN_VALUE, -1, 60, Integer.MAX_VALUE}) {
            Check.test(() -> Check.same("the number " + number, x.copies(1, number), -1));
        }
    }

    private static void whatWouldHappenAndCounts() {
        range("Promise 29: slots: 1 to 100", 1, 100, ARGUMENT, (x, slots) -> x.ifRun(slots));
        answers(1, 0, 100, 2, (x, slots) -> x.ifRun(slots));
        range("Promise 31: what: 0 .. 5", 0, 5, ARGUMENT, (x, what) -> x.count(what));
        answers(0, 4, 5, 0, (x, what) -> x.count(what));
        answers(1, 1, 4, 0, (x, what) -> x.count(what));
    }
}
