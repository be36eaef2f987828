/** Section 4 c and the clocks, at their borders: duplicates, refusals, lost acknowledgements, stamps. */
public final class SendingLimitsTest {
    public static void main(String[] args) {
        Check.test(SendingLimitsTest::aDuplicateAtTheCollector);
        Check.test(SendingLimitsTest::aDuplicateAtAMeter);
        Check.test(SendingLimitsTest::aDuplicateAtAFullStore);
        Check.test(SendingLimitsTest::aDuplicateAtEachPlace);
        Check.test(SendingLimitsTest::sameNumberOfAnotherMeter);
        Check.test(SendingLimitsTest::aReadingThatHasBeenSentOn);
        Check.test(SendingLimitsTest::aReadingThatComesHome);
        Check.test(SendingLimitsTest::aLostAcknowledgement);
        Check.test(SendingLimitsTest::aLostAcknowledgementOfADuplicate);
        Check.test(SendingLimitsTest::nineLostAcknowledgements);
        Check.test(SendingLimitsTest::noFaultIsUsedByARefusal);
        Check.test(SendingLimitsTest::theFaultsOfTheParent);
        Check.test(SendingLimitsTest::fromEachMeterToEach);
        Check.test(SendingLimitsTest::theFirstReadingAtTheEnd);
        Check.test(SendingLimitsTest::stampOfATakenReading);
        Check.test(SendingLimitsTest::stampsWhenAClockIsSet);
        Check.test(SendingLimitsTest::stampsOfCollectedReadings);
        Check.test(SendingLimitsTest::stampsWhenTheClockIsRight);
        Check.test(SendingLimitsTest::stampsWhenAClockJumps);
        Check.test(SendingLimitsTest::stampsOnTheWay);
        Check.test(SendingLimitsTest::stampsOfDuplicates);
        Check.finish();
    }

    private static void aDuplicateAtTheCollector() {
        Check.sentence("Section 4 c: a duplicate at the collector");
        MeterNetwork x = Check.chain(0, 1);
        x.take(1, 5);
        x.take(1, 6);
        x.setFaults(1, 1);
        Check.same("collected", x.run(2), 1);
        Check.same("no duplicate yet", x.count(2), 0);
        Check.same("not collected again", x.run(10), 0);
        Check.same("a duplicate", x.count(2), 1);
        Check.same("sent twice", x.count(1), 2);
        Check.same("not refused", x.count(3), 0);
        Check.same("accepted: removed from the store", Check.stored(x, 1, 0), "1/1/6/0/0");
        Check.same("in the list once", x.collected(), 1);
        Check.same("the next one is no duplicate", x.run(10), 1);
        Check.same("one duplicate", x.count(2), 1);
    }

    /** 1 keeps what 2 sends to it, as the collector is off; the first acknowledgement is lost. */
    private static MeterNetwork sentOnce() {
        MeterNetwork x = Check.chain(0, 1, 2);
        x.setPatience(5);
        x.run(2);
        x.power(0, false);
        x.take(2, 77);
        x.setFaults(2, 1);
        x.run(1);
        return x;
    }

    private static void aDuplicateAtAMeter() {
        Check.sentence("Section 4 c: a duplicate at a meter");
        MeterNetwork x = sentOnce();
        Check.same("both have it", x.copies(2, 0), 2);
        Check.same("no duplicate yet", x.count(2), 0);
        x.run(10);
        Check.same("a duplicate", x.count(2), 1);
        Check.same("accepted: removed from the store of n", x.stored(2), 0);
        Check.same("once in the store of p", x.stored(1), 1);
        Check.same("not refused", x.count(3), 0);
    }

    private static void aDuplicateAtAFullStore() {
        Check.sentence("Section 4 c: a duplicate at a meter whose store is full");
        MeterNetwork x = sentOnce();
        for (int value = 0; value < 5; value++) {
            x.take(1, value);
        }
        x.take(2, 78);
        x.run(10);
        Check.same("a duplicate", x.count(2), 1);
        Check.same("not refused", x.count(3), 0);
        Check.same("accepted: removed from the store of n", Check.stored(x, 2, 0), "2/1/78/3/3");
        Check.same("the store of p is as it was", x.stored(1), 6);
        x.run(10);
        Check.same("one that is no duplicate is refused", x.count(3), 1);
        Check.same("and no duplicate", x.count(2), 1);
    }

    private static void aDuplicateAtEachPlace() {
        Check.sentence("Section 4 c: if its store has a reading with this meter and number: at any place");
        for (int before = 0; before <= 5; before++) {
            for (int behind = 0; before + behind <= 5; behind++) {
                MeterNetwork x = Check.chain(0, 1, 2);
                x.run(2);
                x.power(0, false);
                x.take(2, 77);
                x.setFaults(2, 1);
                for (int value = 0; value < before; value++) {
                    x.take(1, value);
                }
                x.run(1);
                for (int value = 0; value < behind; value++) {
                    x.take(1, value);
                }
                x.run(10);
                String what = before + " before it, " + behind + " behind it";
                Check.same(what + ": a duplicate", x.count(2), 1);
                Check.same(what + ": in the store once", x.stored(1), before + 1 + behind);
                Check.same(what + ": gone at n", x.stored(2), 0);
            }
        }
    }

    private static void sameNumberOfAnotherMeter() {
        Check.sentence("Section 4 c: with this meter and number: not the number alone, nor the meter alone");
        MeterNetwork x = Check.chain(0, 1, 2);
        x.run(2);
        x.power(0, false);
        x.take(1, 7);
        x.take(2, 7);
        x.run(1);
        Check.same("the number 0 of both", x.stored(1), 2);
        x.take(2, 7);
        x.run(10);
        Check.same("0 and 1 of the same meter", x.stored(1), 3);
        Check.same("no duplicate", x.count(2), 0);
        x.power(0, true);
        x.run(40);
        Check.same("all at the collector", x.collected(), 3);
        Check.same("no duplicate there", x.count(2), 0);
    }

    private static void aReadingThatHasBeenSentOn() {
        Check.sentence("Section 4 c: a reading that p had before, but has no more, is no duplicate at p");
        MeterNetwork x = Check.chain(0, 1, 2);
        x.take(2, 5);
        x.setFaults(2, 1);
        x.run(12);
        Check.same("collected by way of 1", x.collected(), 1);
        Check.same("1 has it no more", x.stored(1), 0);
        x.run(1);
        Check.same("added at 1 once more", x.stored(1), 1);
        Check.same("no duplicate there", x.count(2), 0);
        x.run(10);
        Check.same("a duplicate at the collector", x.count(2), 1);
        Check.same("collected once", x.collected(), 1);
        Check.same("nowhere else", x.copies(2, 0), 0);
    }

    private static void aReadingThatComesHome() {
        Check.sentence("Section 4 c: a duplicate at the meter that took the reading");
        MeterNetwork x = sentOnce();
        x.link(0, 2, true);
        x.link(0, 1, false);
        x.power(2, false);
        x.run(58);
        Check.same("1 has dropped its parent", x.parent(1), -1);
        x.power(0, true);
        x.power(2, true);
        x.setFaults(2, 9);
        x.run(10);
        Check.same("2 has heard 1, which leads no more, and then 0", x.parent(2), 0);
        x.run(2);
        Check.same("1 has heard 2", x.parent(1), 2);
        Check.same("2 has sent it to the collector", x.collected(), 1);
        Check.same("and has it still", x.stored(2), 1);
        Check.same("no duplicate yet", x.count(2), 0);
        x.run(9);
        Check.same("1 has sent it home: a duplicate", x.count(2), 1);
        Check.same("1 has it no more", x.stored(1), 0);
        Check.same("2 has it once", x.stored(2), 1);
    }

    private static void aLostAcknowledgement() {
        Check.sentence("Section 4 c: a lost acknowledgement");
        MeterNetwork x = Check.chain(0, 1);
        x.take(1, 5);
        x.take(1, 6);
        x.setFaults(1, 1);
        x.run(2);
        Check.same("one fault less", x.faults(1), 0);
        Check.same("lost", x.count(4), 1);
        Check.same("the reading is not removed", x.stored(1), 2);
        Check.same("and is the first one still", x.storedReading(1, 0, 1), 0);
        Check.same("it is accepted all the same", x.collected(), 1);
        x.run(10);
        Check.same("no more faults", x.faults(1), 0);
        Check.same("none is lost", x.count(4), 1);
        Check.same("removed then", x.stored(1), 1);
    }

    private static void aLostAcknowledgementOfADuplicate() {
        Check.sentence("Section 4 c: if it is accepted: also the acknowledgement of a duplicate is lost");
        MeterNetwork x = sentOnce();
        x.setFaults(2, 1);
        x.run(10);
        Check.same("a duplicate", x.count(2), 1);
        Check.same("lost too", x.count(4), 2);
        Check.same("a fault less", x.faults(2), 0);
        Check.same("kept", x.stored(2), 1);
        x.run(10);
        Check.same("a duplicate again", x.count(2), 2);
        Check.same("not lost", x.count(4), 2);
        Check.same("removed", x.stored(2), 0);
    }

    private static void nineLostAcknowledgements() {
        Check.sentence("Section 5: a number of faults from 0 to 9: nine in a row");
        MeterNetwork x = Check.chain(0, 1);
        x.take(1, 5);
        x.setFaults(1, 9);
        x.run(2);
        for (int left = 8; left >= 0; left--) {
            Check.same("left", x.faults(1), left);
            Check.same("kept", x.stored(1), 1);
            Check.same("lost", x.count(4), 9 - left);
            x.run(10);
        }
        Check.same("none below 0", x.faults(1), 0);
        Check.same("removed", x.stored(1), 0);
        Check.same("duplicates", x.count(2), 9);
        Check.same("sent", x.count(1), 10);
    }

    private static void noFaultIsUsedByARefusal() {
        Check.sentence("Section 4 c: if it is accepted: a refused reading uses no fault");
        MeterNetwork x = Check.chain(0, 1, 2);
        x.run(2);
        x.power(0, false);
        for (int value = 0; value < 6; value++) {
            x.take(1, value);
        }
        x.take(2, 5);
        x.setFaults(2, 1);
        x.run(1);
        Check.same("refused", x.count(3), 1);
        Check.same("the fault is there", x.faults(2), 1);
        Check.same("nothing is lost", x.count(4), 0);
        Check.same("kept", x.stored(2), 1);
        x.power(0, true);
        x.run(10);
        Check.same("accepted when there is room: lost", x.count(4), 1);
        Check.same("the fault is used", x.faults(2), 0);
    }

    private static void theFaultsOfTheParent() {
        Check.sentence("Section 4 c: if n has a fault: not if p has one");
        MeterNetwork x = Check.chain(0, 1, 2);
        x.setFaults(1, 3);
        x.take(2, 5);
        x.run(3);
        Check.same("handed to 1", x.stored(1), 1);
        Check.same("removed at 2", x.stored(2), 0);
        Check.same("the faults of 1", x.faults(1), 3);
        Check.same("nothing is lost", x.count(4), 0);
    }

    private static void fromEachMeterToEach() {
        Check.sentence("Section 4 c: if p is a meter: added at the end of its store, and accepted: each p and n");
        for (int p = 1; p <= 9; p++) {
            for (int n = 1; n <= 9; n++) {
                if (n != p) {
                    MeterNetwork x = Check.chain(0, p, n);
                    x.run(20);
                    x.power(0, false);
                    x.take(p, 5);
                    x.take(n, 7);
                    x.run(10);
                    String what = n + " to " + p;
                    Check.same(what + ": added", Check.stored(x, p, 1), n + "/0/7/20/20");
                    Check.same(what + ": removed", x.stored(n), 0);
                    Check.same(what + ": sent, and not refused", x.count(1) * 10 + x.count(3), 10);
                }
            }
        }
    }

    private static void theFirstReadingAtTheEnd() {
        Check.sentence("Section 4 c: n sends the first reading of its store; it is added at the end");
        MeterNetwork x = Check.chain(0, 1, 2);
        x.run(2);
        x.power(0, false);
        x.take(1, 10);
        x.take(1, 11);
        x.take(2, 20);
        x.take(2, 21);
        x.run(1);
        Check.same("one reading in each slot", x.stored(2), 1);
        Check.same("the second one is left", x.storedReading(2, 0, 2), 21);
        Check.same("the first one is at the end", x.storedReading(1, 2, 2), 20);
        Check.same("the first is the first", x.storedReading(1, 0, 2), 10);
        x.power(0, true);
        x.run(100);
        int[] values = {10, 11, 20, 21};
        for (int i = 0; i < 4; i++) {
            Check.same("in the order in which they came in", x.collectedReading(i, 2), values[i]);
        }
    }

    private static void stampOfATakenReading() {
        Check.sentence("Section 3: its stamp is the clock of the meter; its time is the time as it is now");
        MeterNetwork x = new MeterNetwork();
        x.take(1, 1);
        x.jump(1, -100);
        x.take(1, 2);
        x.run(100);
        x.take(1, 3);
        x.jump(1, 100);
        x.take(1, 4);
        Check.same("at the time 0", Check.stored(x, 1, 0), "1/0/1/0/0");
        Check.same("below 0", Check.stored(x, 1, 1), "1/1/2/0/-100");
        Check.same("later", Check.stored(x, 1, 2), "1/2/3/100/0");
        Check.same("right again", Check.stored(x, 1, 3), "1/3/4/100/100");
    }

    private static void stampsWhenAClockIsSet() {
        Check.sentence("Section 4: the stamps of all readings in the store of m change by the same amount as the offset");
        MeterNetwork x = Check.chain(0, 1, 2);
        x.run(2);
        x.power(0, false);
        x.take(2, 5);
        x.run(1);
        x.take(1, 6);
        x.jump(1, 30);
        x.take(1, 7);
        x.jump(1, -50);
        x.take(1, 8);
        x.jump(2, 4);
        x.take(2, 9);
        Check.same("before", allStored(x, 1), "2/0/5/2/2 1/0/6/3/3 1/1/7/3/33 1/2/8/3/-17");
        x.power(0, true);
        x.run(8);
        Check.same("1 has offset -20, and 0 has set it: all go 20 on", allStored(x, 1),
                "2/0/5/2/22 1/0/6/3/23 1/1/7/3/53 1/2/8/3/3");
        Check.same("the clock", x.clock(1), 11);
        Check.same("another store does not go with it", allStored(x, 2), "2/1/9/3/7");
        x.run(1);
        Check.same("the collected one", Check.collected(x, 0), "2/0/5/2/22");
        Check.same("2 is set by 1, and its store goes back by 4", allStored(x, 2), "2/1/9/3/3");
        x.jump(1, 10);
        x.run(9);
        Check.same("what is collected does not change when 1 is set again", Check.collected(x, 0), "2/0/5/2/22");
        Check.same("what is in the store does, and what came to it with the wrong clock of 1", allStored(x, 1),
                "1/0/6/3/13 1/1/7/3/43 1/2/8/3/-7 2/1/9/3/3");
    }

    private static void stampsOfCollectedReadings() {
        Check.sentence("Section 4: a clock is set: the stamps of collected readings do not change, sixty of them");
        MeterNetwork x = Check.chain(0, 1);
        x.run(10);
        for (int number = 0; number < 60; number++) {
            x.take(1, number);
            x.run(10);
        }
        x.jump(1, 30);
        x.run(10);
        Check.same("the clock is set", x.clock(1), x.time());
        for (int index = 0; index < 60; index++) {
            Check.same("stamp " + index, x.collectedReading(index, 4), 10 + 10 * index);
        }
        Check.same("none is wrong", x.wrongStamps(), 0);
    }

    private static String allStored(MeterNetwork x, int meter) {
        StringBuilder s = new StringBuilder();
        for (int index = 0; index < x.stored(meter); index++) {
            s.append(index == 0 ? "" : " ").append(Check.stored(x, meter, index));
        }
        return s.toString();
    }

    private static void stampsWhenTheClockIsRight() {
        Check.sentence("Section 4: a clock that is right already is set without a change");
        MeterNetwork x = new MeterNetwork();
        x.take(1, 5);
        x.jump(1, 60);
        x.take(1, 6);
        x.jump(1, -60);
        x.link(0, 1, true);
        x.run(1);
        Check.same("set, with offset 0", allStored(x, 1), "1/0/5/0/0 1/1/6/0/60");
        Check.same("the clock", x.clock(1), 1);
    }

    private static void stampsWhenAClockJumps() {
        Check.sentence("Section 5: when the clock of a meter jumps, the stamps in its store do not change");
        MeterNetwork x = new MeterNetwork();
        x.take(1, 5);
        x.jump(1, 100);
        x.jump(1, -1);
        Check.same("the stamp", Check.stored(x, 1, 0), "1/0/5/0/0");
        Check.same("the clock", x.clock(1), 99);
    }

    private static void stampsOnTheWay() {
        Check.sentence("Section 4 c: the stamp that it had plus the offset of p minus the offset of n");
        MeterNetwork x = Check.chain(0, 1, 2);
        x.run(2);
        x.take(2, 5);
        x.jump(2, 7);
        x.jump(1, 40);
        x.run(1);
        Check.same("2 + 40 - 7", Check.stored(x, 1, 0), "2/0/5/2/35");
        x.power(0, false);
        x.run(8);
        x.power(0, true);
        x.run(1);
        Check.same("35 + 0 - 40 at the collector", Check.collected(x, 0), "2/0/5/2/-5");
        MeterNetwork y = Check.chain(0, 1);
        y.run(1);
        y.take(1, 5);
        y.jump(1, -9);
        y.setFaults(1, 1);
        y.run(1);
        Check.same("1 + 0 + 9", Check.collected(y, 0), "1/0/5/1/10");
        Check.same("the one that is kept has its stamp", Check.stored(y, 1, 0), "1/0/5/1/1");
    }

    private static void stampsOfDuplicates() {
        Check.sentence("Section 4 c: a duplicate is not added, so that the stamp stays that of the first one");
        MeterNetwork x = Check.chain(0, 1);
        x.take(1, 5);
        x.setFaults(1, 1);
        x.run(2);
        x.power(0, false);
        x.run(9);
        x.jump(1, 25);
        x.power(0, true);
        x.run(1);
        Check.same("a duplicate", x.count(2), 1);
        Check.same("its stamp", Check.collected(x, 0), "1/0/5/0/0");
        Check.same("none is wrong", x.wrongStamps(), 0);
        MeterNetwork y = sentOnce();
        y.run(9);
        y.jump(2, 25);
        y.run(1);
        Check.same("a duplicate at a meter", y.count(2), 1);
        Check.same("its stamp there", Check.stored(y, 1, 0), "2/0/77/2/2");
    }
}
