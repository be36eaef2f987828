/** Section 4, sentence by sentence, at its borders: depths, patience, clocks, duplicates, lost acknowledgements. */
public final class SlotLimitsTest {
    public static void main(String[] args) {
        Check.test(SlotLimitsTest::slotsBeyondOneRound);
        Check.test(SlotLimitsTest::timeIncreasesAfterTheSlot);
        Check.test(SlotLimitsTest::aNodeThatIsOffIsNotImpatient);
        Check.test(SlotLimitsTest::aNodeThatIsOffIsNotHeard);
        Check.test(SlotLimitsTest::aNodeThatIsOffDoesNotSend);
        Check.test(SlotLimitsTest::moreThanTenTimesPatience);
        Check.test(SlotLimitsTest::patienceIsTakenAsItIsThen);
        Check.test(SlotLimitsTest::droppedBeforeTheOthersHear);
        Check.test(SlotLimitsTest::droppedBeforeSending);
        Check.test(SlotLimitsTest::theCollectorIsNeverImpatient);
        Check.test(SlotLimitsTest::hearingTheParent);
        Check.test(SlotLimitsTest::hearingAnotherNode);
        Check.test(SlotLimitsTest::aParentWithoutDepth);
        Check.test(SlotLimitsTest::aParentAtDepthNine);
        Check.test(SlotLimitsTest::anotherNodeAtDepthNineAndEight);
        Check.test(SlotLimitsTest::anotherNodeWithoutDepth);
        Check.test(SlotLimitsTest::deeperByOneAndByTwo);
        Check.test(SlotLimitsTest::noFollowingOfAChild);
        Check.test(SlotLimitsTest::theCollectorHearsNobody);
        Check.finish();
    }

    /** Each meter sends a reading to the collector in each of its slots; the last one in tells whose slot it was. */
    private static void slotsBeyondOneRound() {
        Check.sentence("Section 1: the slot s belongs to the node s modulo 10");
        for (int rounds : new int[] {0, 1, 9, 10, 99, 100, 4999}) {
            MeterNetwork x = new MeterNetwork();
            for (int round = 0; round < rounds; round++) {
                x.run(10);
            }
            for (int meter = 1; meter <= 9; meter++) {
                x.link(0, meter, true);
                for (int value = 0; value < 6; value++) {
                    x.take(meter, value);
                }
            }
            for (int slot = rounds * 10; slot < rounds * 10 + 60; slot++) {
                int came = x.run(1);
                Check.same("came in the slot " + slot, came, slot % 10 == 0 ? 0 : 1);
                if (came > 0) {
                    Check.same("whose slot is " + slot, x.collectedReading(x.collected() - 1, 0), slot % 10);
                }
            }
        }
    }

    private static void timeIncreasesAfterTheSlot() {
        Check.sentence("Section 4: after that, the time increases by 1");
        MeterNetwork x = Check.chain(0, 1);
        x.run(1);
        Check.same("heard at the time 0", x.silence(1), 1);
        Check.same("the time", x.time(), 1);
        x.run(10);
        Check.same("heard at the time 10", x.silence(1), 1);
        Check.sentence("Section 4: also if n is off");
        MeterNetwork y = new MeterNetwork();
        for (int node = 0; node <= 9; node++) {
            y.power(node, false);
        }
        for (int slot = 1; slot <= 25; slot++) {
            y.run(1);
            Check.same("the time", y.time(), slot);
        }
    }

    private static void aNodeThatIsOffIsNotImpatient() {
        Check.sentence("Section 4 a: in the slot of a node that is off no parent is dropped");
        MeterNetwork x = Check.chain(0, 1);
        x.run(1);
        x.power(0, false);
        x.run(20);
        x.power(1, false);
        x.run(1);
        Check.same("the slot 21, off", x.parent(1), 0);
        x.power(1, true);
        x.run(9);
        Check.same("before its next slot", x.parent(1), 0);
        Check.same("silent for long", x.silence(1), 31);
        x.run(1);
        Check.same("its next slot, on", x.parent(1), -1);
    }

    private static void aNodeThatIsOffIsNotHeard() {
        Check.sentence("Section 4 b: in the slot of a node that is off nobody hears it, nor does it hear anybody");
        MeterNetwork x = Check.chain(0, 1, 2);
        x.run(10);
        x.power(1, false);
        x.run(10);
        Check.same("2 has not heard 1", x.silence(2), 19);
        Check.same("1 has not heard 0", x.silence(1), 20);
        x.power(1, true);
        x.run(2);
        Check.same("2 has heard 1", x.silence(2), 1);
        Check.same("1 has heard 0", x.silence(1), 2);
    }

    private static void aNodeThatIsOffDoesNotSend() {
        Check.sentence("Section 4 c: in the slot of a node that is off it does not send");
        MeterNetwork x = Check.chain(0, 1);
        x.run(1);
        x.take(1, 5);
        x.power(1, false);
        x.run(1);
        Check.same("sent", x.count(1), 0);
        Check.same("kept", x.stored(1), 1);
        Check.sentence("Section 4 c: n is connected with p");
        x.power(1, true);
        x.power(0, false);
        x.run(10);
        Check.same("the parent is off: sent", x.count(1), 0);
        x.power(0, true);
        x.link(0, 1, false);
        x.run(10);
        Check.same("no link: the parent is dropped", x.parent(1), -1);
        Check.same("no link: sent", x.count(1), 0);
        x.link(0, 1, true);
        x.run(8);
        Check.same("no parent: sent", x.count(1), 0);
        x.run(2);
        Check.same("sent at last", x.count(1), 1);
    }

    /**
     * Each meter n over each parent p, which is switched off: n drops it in the first slot of its own
     * that lies more than ten times PATIENCE behind the last slot of p. The nearest ones lie 1 below
     * that border (n is p - 1) and 1 above it (n is p + 1).
     */
    private static void moreThanTenTimesPatience() {
        Check.sentence("Section 4 a: lost after more than ten times PATIENCE");
        for (int patience = 1; patience <= 5; patience++) {
            for (int p = 0; p <= 9; p++) {
                for (int n = 1; n <= 9; n++) {
                    if (n != p) {
                        lose(patience, p, n);
                    }
                }
            }
        }
    }

    private static void lose(int patience, int p, int n) {
        MeterNetwork x = p == 0 ? Check.chain(0, n) : Check.chain(0, p, n);
        x.setPatience(patience);
        x.run(20);
        int heard = 10 + p;
        x.power(p, false);
        int lost = 20 + n;
        while (lost - heard <= 10 * patience) {
            lost += 10;
        }
        for (int slot = 20; slot < lost; slot++) {
            x.run(1);
        }
        String what = n + " over " + p + ", patience " + patience;
        Check.same(what + ": not before that slot", x.parent(n), p);
        Check.same(what + ": its silence", x.silence(n), lost - heard);
        Check.same(what + ": none is dropped", x.count(5), 0);
        x.run(1);
        Check.same(what + ": in that slot", x.parent(n), -1);
        Check.same(what + ": no depth either", x.depth(n), -1);
        Check.same(what + ": one is dropped", x.count(5), 1);
    }

    private static void patienceIsTakenAsItIsThen() {
        Check.sentence("Section 4 a: the setting PATIENCE as it is in that slot");
        MeterNetwork x = Check.chain(0, 1);
        x.setPatience(5);
        x.run(1);
        x.link(0, 1, false);
        x.run(40);
        Check.same("patient", x.parent(1), 0);
        x.setPatience(4);
        Check.same("not at once", x.parent(1), 0);
        x.run(1);
        Check.same("41 is more than 40", x.parent(1), -1);
        MeterNetwork y = Check.chain(0, 1);
        y.run(1);
        y.link(0, 1, false);
        y.run(20);
        y.setPatience(3);
        y.run(10);
        Check.same("31 slots after it was heard, before the slot 31", y.parent(1), 0);
        y.run(1);
        Check.same("31 is more than 30", y.parent(1), -1);
    }

    private static void droppedBeforeTheOthersHear() {
        Check.sentence("Section 4: a comes before b");
        MeterNetwork x = Check.chain(0, 1, 2);
        x.run(10);
        x.link(0, 1, false);
        x.run(11);
        Check.same("2 over 1", x.parent(2), 1);
        x.run(1);
        Check.same("1 has no parent", x.parent(1), -1);
        Check.same("2 hears that in the same slot", x.parent(2), -1);
        Check.same("both are dropped", x.count(5), 2);
    }

    private static void droppedBeforeSending() {
        Check.sentence("Section 4: a comes before c");
        MeterNetwork x = silentFor(21);
        Check.same("dropped: not sent", x.count(1), 0);
        Check.same("dropped", x.parent(1), -1);
        MeterNetwork y = silentFor(11);
        Check.same("not dropped: sent", y.count(1), 1);
    }

    /** 1 has not heard its parent 0 for so long when it is connected with it in its own slot. */
    private static MeterNetwork silentFor(int slots) {
        MeterNetwork x = Check.chain(0, 1);
        x.run(1);
        x.take(1, 5);
        x.power(0, false);
        for (int slot = 1; slot < slots; slot++) {
            x.run(1);
        }
        x.power(0, true);
        x.run(1);
        return x;
    }

    private static void theCollectorIsNeverImpatient() {
        Check.sentence("Section 2: the depth of the collector is 0");
        MeterNetwork x = new MeterNetwork();
        x.setPatience(1);
        x.run(100);
        Check.same("never heard anybody", x.depth(0), 0);
        Check.same("drops nothing", x.count(5), 0);
        x.link(0, 1, true);
        x.run(11);
        Check.same("leads still", x.depth(1), 1);
    }

    private static void hearingTheParent() {
        Check.sentence("Section 4 b: n is the parent of m: the time, the depth and the clock");
        MeterNetwork x = Check.chain(0, 2, 1);
        x.run(20);
        Check.same("1 over 2 over 0", x.depth(1), 2);
        x.power(0, false);
        x.jump(2, 30);
        x.run(2);
        Check.same("1 is not set yet", x.clock(1), 22);
        Check.same("silent", x.silence(1), 10);
        x.run(1);
        Check.same("1 is set by 2", x.clock(1), 53);
        Check.same("and no longer silent", x.silence(1), 1);
        Check.same("with the same parent", x.parent(1), 2);
        MeterNetwork y = Check.chain(0, 1, 2, 3, 4);
        y.run(10);
        y.link(0, 3, true);
        y.run(1);
        Check.same("3 is less deep", y.depth(3), 1);
        Check.same("4 does not know it", y.depth(4), 4);
        y.run(3);
        Check.same("4 hears its parent", y.depth(4), 2);
    }

    private static void hearingAnotherNode() {
        Check.sentence("Section 4 b: otherwise: a node that is no better is not heard as the parent is");
        MeterNetwork x = Check.chain(0, 3, 2);
        x.link(0, 2, true);
        x.run(10);
        Check.same("both over 0", x.parent(2) + x.parent(3), 0);
        x.power(0, false);
        x.run(3);
        x.jump(3, 50);
        x.run(1);
        Check.same("2 has not heard its parent", x.silence(2), 14);
        Check.same("nor is it set by 3", x.clock(2), 14);
        Check.same("nor does it follow 3", x.depth(2), 1);
        Check.sentence("Section 4 b: n becomes the parent of m: the time, the depth and the clock");
        MeterNetwork y = new MeterNetwork();
        y.jump(5, 40);
        y.run(35);
        y.link(0, 5, true);
        y.run(5);
        Check.same("no parent before the slot 40", y.parent(5), -1);
        y.run(1);
        Check.same("the parent", y.parent(5), 0);
        Check.same("the depth", y.depth(5), 1);
        Check.same("the time at which it heard it", y.silence(5), 1);
        Check.same("the clock", y.clock(5), 41);
    }

    private static void aParentWithoutDepth() {
        Check.sentence("Section 4 b: otherwise the parent of m is dropped: a parent without depth");
        MeterNetwork x = Check.chain(0, 2, 1);
        x.run(20);
        x.jump(2, 9);
        x.link(0, 2, false);
        x.run(12);
        Check.same("2 is patient, and 1 is set by it", x.clock(1), 41);
        x.jump(2, 4);
        x.run(1);
        Check.same("the slot 32: 2 drops 0", x.parent(2), -1);
        Check.same("1 hears it", x.parent(1), -1);
        Check.same("and has no depth", x.depth(1), -1);
        Check.same("both are counted", x.count(5), 2);
        Check.same("1 is not set by it", x.clock(1), 42);
    }

    /**
     * 9, 8, 7 .. 1 in a row, against the order of the slots, so that a change goes a hop farther in each
     * round. The depth of the meter m is 10 - m.
     */
    private static MeterNetwork deepRow() {
        MeterNetwork x = Check.chain(0, 9, 8, 7, 6, 5, 4, 3, 2, 1);
        x.run(100);
        for (int meter = 1; meter <= 9; meter++) {
            Check.same("the depth of " + meter, x.depth(meter), 10 - meter);
        }
        return x;
    }

    private static void aParentAtDepthNine() {
        Check.sentence("Section 4 b: otherwise the parent of m is dropped: a parent with a depth of 9");
        MeterNetwork x = deepRow();
        x.link(0, 9, false);
        x.run(20);
        Check.same("9 and 8 have no depth", x.depth(9) + x.depth(8), -2);
        x.link(2, 8, true);
        x.run(8);
        Check.same("8 has come to the depth 9 over 2", x.depth(8), 9);
        Check.same("7 is over 8", x.parent(7), 8);
        Check.same("two are dropped", x.count(5), 2);
        x.jump(8, 6);
        x.run(1);
        Check.same("7 has heard 8: no parent", x.parent(7), -1);
        Check.same("no depth", x.depth(7), -1);
        Check.same("three are dropped", x.count(5), 3);
        Check.same("7 is not set by 8", x.clock(7), 129);
        x.run(10);
        Check.same("nor does it follow 8 again", x.parent(7), -1);
    }

    /** 9 is off, so that 8 drops it in the slot 128, and 7 hears that; 6 .. 1 keep their depths for now. */
    private static MeterNetwork brokenRow() {
        MeterNetwork x = deepRow();
        x.power(9, false);
        x.run(29);
        Check.same("8 and 7 have no depth", x.depth(8) + x.depth(7), -2);
        Check.same("2 is at depth 8", x.depth(2), 8);
        Check.same("1 is at depth 9", x.depth(1), 9);
        return x;
    }

    private static void anotherNodeAtDepthNineAndEight() {
        Check.sentence("Section 4 b: a node n with a depth of 9 becomes nobody's parent, one with a depth of 8 does");
        MeterNetwork nine = brokenRow();
        nine.link(1, 8, true);
        nine.run(9);
        Check.same("8 has heard 1", nine.parent(8), -1);
        MeterNetwork eight = brokenRow();
        eight.link(2, 8, true);
        eight.run(9);
        Check.same("8 has heard 2", eight.parent(8), 2);
        Check.same("the depth of 8", eight.depth(8), 9);
        MeterNetwork both = brokenRow();
        both.link(1, 8, true);
        both.link(2, 8, true);
        both.run(3);
        Check.same("8 has heard 1, but not 2", both.parent(8), -1);
        both.run(1);
        Check.same("8 has heard both", both.parent(8), 2);
    }

    private static void anotherNodeWithoutDepth() {
        Check.sentence("Section 4 b: a node n without depth becomes nobody's parent");
        MeterNetwork x = Check.chain(5, 6, 7);
        x.run(30);
        Check.same("6", x.parent(6), -1);
        Check.same("7", x.parent(7), -1);
        Check.same("none has a depth", x.depth(5) + x.depth(6) + x.depth(7), -3);
        Check.same("no clock is set", x.joined(), 0.0);
        MeterNetwork y = Check.chain(0, 3, 4);
        y.run(10);
        y.link(7, 4, true);
        y.run(10);
        Check.same("one that has a parent keeps it", y.parent(4), 3);
        Check.same("and its depth", y.depth(4), 2);
    }

    private static void deeperByOneAndByTwo() {
        Check.sentence("Section 4 b: a depth greater than d + 1, and one that is not");
        for (int depth = 1; depth <= 5; depth++) {
            for (int d = depth == 1 ? 1 : 0; d <= 4; d++) {
                another(depth, d);
            }
        }
    }

    /** 9 has a parent, and so its depth; then it hears another node, with the depth d. */
    private static void another(int depth, int d) {
        MeterNetwork x = new MeterNetwork();
        int parent = endOfRow(x, 1, depth - 1);
        int other = endOfRow(x, 5, d);
        x.link(parent, 9, true);
        x.run(20);
        Check.same("its depth at first", x.depth(9), depth);
        x.link(other, 9, true);
        x.run(10);
        boolean isBetter = depth > d + 1;
        String what = "at depth " + depth + " over " + d;
        Check.same(what + ": its parent", x.parent(9), isBetter ? other : parent);
        Check.same(what + ": its depth", x.depth(9), isBetter ? d + 1 : depth);
        Check.same(what + ": a parent that is replaced is not dropped", x.count(5), 0);
    }

    /** Links so many nodes to the collector, in a row that begins with the first one. */
    private static int endOfRow(MeterNetwork x, int first, int nodes) {
        int end = 0;
        for (int node = first; node < first + nodes; node++) {
            x.link(end, node, true);
            end = node;
        }
        return end;
    }

    private static void noFollowingOfAChild() {
        Check.sentence("Section 4 b: m is not the parent of n");
        MeterNetwork x = Check.chain(0, 8, 7);
        x.run(20);
        x.link(0, 8, false);
        x.run(18);
        Check.same("8 is patient", x.parent(8), 0);
        x.power(7, false);
        x.run(1);
        Check.same("the slot 38: 8 drops 0", x.parent(8), -1);
        x.power(7, true);
        Check.same("7 has not heard it", x.parent(7), 8);
        x.link(7, 6, true);
        x.run(9);
        Check.same("7 leads", x.depth(7), 2);
        Check.same("6 has heard 7 and follows it", x.parent(6), 7);
        Check.same("8 has heard 7, whose parent it is", x.parent(8), -1);
    }

    private static void theCollectorHearsNobody() {
        Check.sentence("Section 4 b: each meter m: the collector hears nobody");
        MeterNetwork x = Check.chain(0, 1, 2);
        x.run(22);
        x.jump(1, 60);
        x.jump(2, -60);
        x.link(0, 2, true);
        x.run(1);
        Check.same("2, in its slot, is connected with 0 and over 1", x.parent(2), 1);
        Check.same("its parent", x.parent(0), -1);
        Check.same("its depth", x.depth(0), 0);
        Check.sentence("Section 1: the offset of the collector is always 0");
        Check.same("its clock", x.clock(0), 23);
        x.run(100);
        Check.same("its clock later", x.clock(0), 123);
        x.take(2, 5);
        x.jump(2, 9);
        x.run(100);
        Check.same("its clock when a reading has come in", x.clock(0), 223);
    }
}
