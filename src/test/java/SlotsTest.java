/** Section 4 of the document, step by step: what promise 8 (run) does in each slot. */
public final class SlotsTest {
    public static void main(String[] args) {
        Check.test(SlotsTest::slotOwners);
        Check.test(SlotsTest::offNodesDoNothing);
        Check.test(SlotsTest::parentsAreChosenByDepth);
        Check.test(SlotsTest::parentsKeepThePathsFree);
        Check.test(SlotsTest::parentsThatLead);
        Check.test(SlotsTest::depthNineLeadsNobody);
        Check.test(SlotsTest::noMeterFollowsItsChild);
        Check.test(SlotsTest::clocksAndStamps);
        Check.test(SlotsTest::sendingToTheCollector);
        Check.test(SlotsTest::stampsStayWithTheirReadings);
        Check.test(SlotsTest::sendingToAMeter);
        Check.test(SlotsTest::refusals);
        Check.test(SlotsTest::duplicatesAndFaults);
        Check.test(SlotsTest::duplicateBeforeRefusal);
        Check.test(SlotsTest::noSendingWithoutConnection);
        Check.finish();
    }

    private static void slotOwners() {
        Check.sentence("Section 1: the slot s belongs to the node s modulo 10");
        MeterNetwork x = Check.chain(0, 1, 2, 3, 4, 5, 6, 7, 8, 9);
        for (int node = 0; node <= 8; node++) {
            Check.same("not before the slot of " + node, x.parent(node + 1), -1);
            x.run(1);
            Check.same("the slot " + node, x.parent(node + 1), node);
        }
        x.run(1);
        Check.same("1 has heard 0 in the slot 0", x.silence(1), 10);
        x.run(1);
        Check.same("the slot 10 is that of 0 again", x.silence(1), 1);
        Check.same("and of no other", x.silence(2), 10);
    }

    private static void offNodesDoNothing() {
        Check.sentence("Section 4: if the node n is on");
        MeterNetwork x = Check.chain(0, 1, 2);
        x.power(0, false);
        x.run(2);
        Check.same("0 is off: nobody hears it", x.parent(1), -1);
        Check.same("time goes on", x.time(), 2);
        x.power(0, true);
        x.power(1, false);
        x.run(10);
        Check.same("1 is off: it hears nobody", x.parent(1), -1);
        x.power(1, true);
        x.run(10);
        Check.same("1 hears 0", x.parent(1), 0);
        x.power(1, false);
        x.power(2, false);
        x.take(1, 5);
        x.run(100);
        Check.same("1 is off: its parent stays", x.parent(1), 0);
        Check.same("and it does not send", x.count(1), 0);
        Check.same("nor drops", x.count(5), 0);
        Check.same("the time is 122", x.time(), 122);
        x.power(1, true);
        x.run(9);
        Check.same("0 is heard before the patience is looked at", x.silence(1), 1);
        x.run(1);
        Check.same("so that nothing is dropped", x.parent(1), 0);
    }

    private static void parentsAreChosenByDepth() {
        Check.sentence("Section 4 b: parents are chosen by depth");
        MeterNetwork x = Check.chain(0, 1, 2, 3);
        x.run(10);
        Check.same("3 over 2", x.parent(3), 2);
        Check.same("depth 3", x.depth(3), 3);
        x.link(1, 3, true);
        x.run(10);
        Check.same("3 over 1, which is less deep", x.parent(3), 1);
        Check.same("depth 2", x.depth(3), 2);
        Check.same("a parent that is replaced is not dropped", x.count(5), 0);
        x.link(0, 4, true);
        x.link(4, 3, true);
        x.run(20);
        Check.same("not over 4, which is as deep as 1", x.parent(3), 1);
        x.link(0, 3, true);
        x.run(10);
        Check.same("over 0", x.parent(3), 0);
    }

    /** A meter does not follow its own child, nor a node that is not less deep by two. */
    private static void parentsKeepThePathsFree() {
        Check.sentence("Section 4 a and b: parents that are lost");
        MeterNetwork x = Check.chain(0, 1, 2);
        x.run(10);
        x.link(0, 1, false);
        x.run(11);
        Check.same("1 kept its parent", x.parent(1), 0);
        x.run(1);
        Check.same("1 dropped it in the slot 21", x.parent(1), -1);
        Check.same("2 heard that and dropped 1", x.parent(2), -1);
        Check.same("two parents were dropped", x.count(5), 2);
        MeterNetwork y = Check.chain(0, 2, 1);
        y.run(20);
        Check.same("1 over 2", y.parent(1), 2);
        y.power(2, false);
        y.run(40);
        Check.same("1 dropped 2", y.parent(1), -1);
        Check.same("2 is off and keeps 0", y.parent(2), 0);
        y.link(0, 2, false);
        y.link(0, 1, true);
        y.run(10);
        y.power(2, true);
        // 2 drops 0 in its own slot, and follows 1 when it hears it without a parent.
        y.run(2);
        Check.same("2 hears 1, but 0 is less deep than that", y.parent(2), 0);
        y.run(1);
        Check.same("2 lost its patience", y.parent(2), -1);
        y.run(10);
        Check.same("2 over 1", y.parent(2), 1);
        MeterNetwork z = Check.chain(0, 1, 2);
        z.run(10);
        z.power(0, false);
        z.setPatience(1);
        z.link(0, 1, false);
        z.run(2);
        Check.same("1 lost its patience at 11", z.parent(1), -1);
        Check.same("2 heard that 1 leads nowhere", z.depth(2), -1);
        Check.same("silence of a meter without parent", z.silence(2), -1);
    }

    /** A meter whose parent gets deeper or less deep goes with it. */
    private static void parentsThatLead() {
        Check.sentence("Section 4 b: a meter goes with its parent");
        MeterNetwork x = Check.chain(0, 3, 2, 1);
        x.run(30);
        Check.same("depth of 1", x.depth(1), 3);
        x.link(0, 2, true);
        x.run(1);
        Check.same("2 follows 0", x.depth(2), 1);
        Check.same("1 has not heard it", x.depth(1), 3);
        x.run(2);
        Check.same("1 has heard it", x.depth(1), 2);
        Check.same("with the same parent", x.parent(1), 2);
        MeterNetwork ring = Check.chain(0, 1, 2, 3);
        ring.link(3, 1, true);
        ring.run(10);
        Check.same("2 and 3 over 1", ring.parent(2) == 1 && ring.parent(3) == 1, true);
        ring.link(0, 1, false);
        ring.run(11);
        Check.same("1 at 0 still", ring.depth(1), 1);
        ring.run(1);
        Check.same("none is left", ring.joined(), 0.0);
        Check.same("three were dropped", ring.count(5), 3);
    }

    /**
     * A chain against the order of the slots, so that what is dropped at its head is heard a hop
     * farther in each round: 9 and 8 have dropped their parents in the slot 119, the others not yet.
     */
    private static MeterNetwork slowChain() {
        MeterNetwork x = Check.chain(0, 9, 8, 7, 6, 5, 4, 3, 2, 1);
        x.run(100);
        Check.same("nine", x.depth(1), 9);
        x.link(0, 9, false);
        x.run(19);
        Check.same("9 is patient", x.parent(9), 0);
        x.run(1);
        Check.same("9 is no more", x.parent(9), -1);
        Check.same("8 has heard it", x.parent(8), -1);
        Check.same("7 has not", x.depth(7), 3);
        return x;
    }

    private static void depthNineLeadsNobody() {
        Check.sentence("Section 4 b: a depth less than 9");
        MeterNetwork x = slowChain();
        x.link(1, 9, true);
        x.run(2);
        Check.same("9 has heard 1, which is at depth 9", x.parent(9), -1);
        x.link(2, 9, true);
        x.run(1);
        Check.same("9 has heard 2, which is at depth 8", x.parent(9), 2);
        Check.same("nine at most", x.depth(9), 9);
        MeterNetwork y = slowChain();
        y.link(2, 8, true);
        y.run(3);
        Check.same("8 over 2", y.depth(8), 9);
        Check.same("7 has not heard that", y.depth(7), 3);
        Check.same("two were dropped", y.count(5), 2);
        y.run(6);
        Check.same("7 has heard that its parent is at depth 9", y.parent(7), -1);
        Check.same("9 does not follow 8 either", y.parent(9), -1);
        Check.same("three were dropped", y.count(5), 3);
    }

    private static void noMeterFollowsItsChild() {
        Check.sentence("Section 4 b: m is not the parent of n");
        MeterNetwork x = slowChain();
        x.run(8);
        Check.same("7 leads, over 8", x.parent(7) == 8 && x.depth(7) == 3, true);
        Check.same("but not its own parent", x.parent(8), -1);
        x.link(5, 8, true);
        x.run(1);
        Check.same("7 has heard 8", x.parent(7), -1);
        x.run(7);
        Check.same("8 over 5, which is no child of it", x.parent(8), 5);
        Check.same("its depth", x.depth(8), 6);
    }

    private static void clocksAndStamps() {
        Check.sentence("Section 4: the clock of m is set by n");
        MeterNetwork x = Check.chain(0, 1, 2);
        x.jump(1, 20);
        x.jump(2, -7);
        x.take(2, 5);
        x.take(1, 6);
        x.take(1, 8);
        Check.same("stamp by its own clock", Check.stored(x, 2, 0), "2/0/5/0/-7");
        x.run(1);
        Check.same("1 is set by 0", x.clock(1), 1);
        Check.same("and its store", Check.stored(x, 1, 1), "1/1/8/0/0");
        Check.same("2 is not", x.clock(2), -6);
        x.run(1);
        Check.same("2 is set by 1", x.clock(2), 2);
        Check.same("and its store", Check.stored(x, 2, 0), "2/0/5/0/0");
        x.jump(1, 3);
        x.run(1);
        Check.same("handed on: the clock of 1 minus the clock of 2", Check.stored(x, 1, 1), "2/0/5/0/3");
        Check.same("the store of 1 did not jump", Check.stored(x, 1, 0), "1/1/8/0/0");
        x.run(8);
        Check.same("until 1 is set", Check.stored(x, 1, 1) + " " + Check.stored(x, 1, 0), "2/0/5/0/0 1/1/8/0/-3");
        x.jump(1, 50);
        x.run(1);
        Check.same("collected with the offset of 1 taken away", Check.collected(x, 1), "1/1/8/0/-53");
        x.jump(2, 4);
        x.run(100);
        Check.same("2 goes with 1 all the time", x.clock(2), x.time());
        Check.same("a jump of a meter that has no parent stays", x.jump(9, 8), 8);
        MeterNetwork y = Check.chain(0, 1, 2);
        y.run(2);
        y.jump(1, 9);
        y.take(1, 1);
        y.run(10);
        Check.same("2 is set by a meter", y.clock(2), 12);
        y.power(0, false);
        y.jump(1, 9);
        y.run(10);
        Check.same("2 is set by 1, which is wrong", y.clock(2), 31);
    }

    private static void sendingToTheCollector() {
        Check.sentence("Section 4 c: p is the collector");
        MeterNetwork x = Check.chain(0, 1);
        x.take(1, 5);
        x.take(1, 6);
        x.run(2);
        Check.same("one was sent", x.count(1), 1);
        Check.same("the first one", Check.collected(x, 0), "1/0/5/0/0");
        Check.same("the other is there", Check.stored(x, 1, 0), "1/1/6/0/0");
        x.run(10);
        Check.same("two were sent", x.count(1), 2);
        x.run(100);
        Check.same("and no more", x.count(1), 2);
    }

    private static void stampsStayWithTheirReadings() {
        Check.sentence("Section 4 c: each reading keeps its stamp");
        MeterNetwork x = Check.chain(0, 1);
        x.run(2);
        x.take(1, 7);
        x.run(1);
        x.take(1, 8);
        x.jump(1, 4);
        x.take(1, 9);
        x.run(9);
        Check.same("the second is the first now", Check.stored(x, 1, 0), "1/1/8/3/-1");
        Check.same("the third is the second", Check.stored(x, 1, 1), "1/2/9/3/3");
        Check.same("there is no third", x.storedReading(1, 2, 4), -1);
        x.run(20);
        Check.same("the first", Check.collected(x, 0), "1/0/7/2/-2");
        Check.same("the second", Check.collected(x, 1), "1/1/8/3/-1");
        Check.same("the third", Check.collected(x, 2), "1/2/9/3/3");
        Check.same("two are wrong", x.wrongStamps(), 2);
    }

    private static void sendingToAMeter() {
        Check.sentence("Section 4 c: p is a meter");
        MeterNetwork x = Check.chain(0, 1, 2);
        x.take(1, 1);
        x.take(1, 2);
        x.take(2, 3);
        x.run(3);
        Check.same("at the end of the store", Check.stored(x, 1, 1), "2/0/3/0/0");
        Check.same("gone at 2", x.stored(2), 0);
        x.run(20);
        Check.same("the last one in", Check.collected(x, 2), "2/0/3/0/0");
    }

    private static void refusals() {
        Check.sentence("Section 4 c: refused");
        MeterNetwork x = Check.chain(0, 1, 2);
        x.run(2);
        x.power(0, false);
        for (int value = 0; value < 6; value++) {
            x.take(1, value);
        }
        x.take(2, 9);
        x.setFaults(2, 1);
        x.run(1);
        Check.same("refused", x.count(3), 1);
        Check.same("sent all the same", x.count(1), 1);
        Check.same("kept", x.stored(2), 1);
        Check.same("no acknowledgement, so that none is lost", x.count(4), 0);
        Check.same("and the fault stays", x.faults(2), 1);
        Check.same("six stay six", x.stored(1), 6);
        x.run(10);
        Check.same("refused again", x.count(3), 2);
    }

    private static void duplicatesAndFaults() {
        Check.sentence("Section 4 c: duplicates and lost acknowledgements");
        MeterNetwork x = Check.chain(0, 1);
        x.take(1, 5);
        x.setFaults(1, 2);
        Check.same("collected", x.run(2), 1);
        Check.same("the acknowledgement is lost", x.count(4), 1);
        Check.same("and the reading kept", x.stored(1), 1);
        Check.same("not collected again", x.run(10), 0);
        Check.same("a duplicate", x.count(2), 1);
        Check.same("lost again", x.count(4), 2);
        Check.same("kept again", x.stored(1), 1);
        x.run(10);
        Check.same("a duplicate again", x.count(2), 2);
        Check.same("not lost", x.count(4), 2);
        Check.same("gone", x.stored(1), 0);
        Check.same("collected once", x.collected(), 1);
        Check.same("sent three times", x.count(1), 3);
    }

    /** A full store accepts what it has; the copy keeps its stamp. */
    private static void duplicateBeforeRefusal() {
        Check.sentence("Section 4 c: a duplicate is not refused");
        MeterNetwork x = Check.chain(0, 1, 2);
        x.run(2);
        x.power(0, false);
        x.take(2, 9);
        x.setFaults(2, 1);
        x.run(1);
        Check.same("1 has it", Check.stored(x, 1, 0), "2/0/9/2/2");
        for (int value = 0; value < 5; value++) {
            x.take(1, value);
        }
        x.jump(2, 5);
        x.run(9);
        x.jump(2, 7);
        x.run(1);
        Check.same("a duplicate", x.count(2), 1);
        Check.same("not refused", x.count(3), 0);
        Check.same("gone at 2", x.stored(2), 0);
        Check.same("once at 1", x.copies(2, 0), 1);
        Check.same("with its stamp", Check.stored(x, 1, 0), "2/0/9/2/2");
    }

    private static void noSendingWithoutConnection() {
        Check.sentence("Section 4 c: n is connected with p");
        MeterNetwork x = Check.chain(0, 1);
        x.run(1);
        x.take(1, 5);
        x.link(0, 1, false);
        x.run(10);
        Check.same("no link", x.count(1), 0);
        x.link(0, 1, true);
        x.power(0, false);
        x.run(1);
        Check.same("the parent is off", x.count(1), 0);
        Check.same("kept", x.stored(1), 1);
    }
}
