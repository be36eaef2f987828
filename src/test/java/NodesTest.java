/** Promises 1 to 6 (a new object, links, power, jumps, faults, patience) and 14 to 20 (queries about nodes). */
public final class NodesTest {
    public static void main(String[] args) {
        Check.test(NodesTest::promise1NewObject);
        Check.test(NodesTest::promise2Link);
        Check.test(NodesTest::promise3Power);
        Check.test(NodesTest::promise4Jump);
        Check.test(NodesTest::promise5SetFaults);
        Check.test(NodesTest::promise6SetPatience);
        Check.test(NodesTest::promise14IsConnected);
        Check.test(NodesTest::promise15Parent);
        Check.test(NodesTest::promise16Depth);
        Check.test(NodesTest::promise17Clock);
        Check.test(NodesTest::promise18Silence);
        Check.test(NodesTest::promise19Faults);
        Check.test(NodesTest::promise20Hops);
        Check.finish();
    }

    private static void promise1NewObject() {
        Check.sentence("Promise 1: a new object");
        MeterNetwork x = new MeterNetwork();
        Check.same("NONE", MeterNetwork.NONE, -1);
        for (int node = 0; node <= 9; node++) {
            Check.same("new parent " + node, x.parent(node), -1);
            Check.same("new depth " + node, x.depth(node), node == 0 ? 0 : -1);
            Check.same("new clock " + node, x.clock(node), 0);
            Check.same("new hops " + node, x.hops(node), node == 0 ? 0 : -1);
            for (int other = 0; other <= 9; other++) {
                Check.same("new isConnected " + node + other, x.isConnected(node, other), false);
            }
        }
        for (int meter = 1; meter <= 9; meter++) {
            Check.same("new silence " + meter, x.silence(meter), -1);
            Check.same("new faults " + meter, x.faults(meter), 0);
            Check.same("new stored " + meter, x.stored(meter), 0);
            Check.same("new copies " + meter, x.copies(meter, 0), -1);
        }
        for (int what = 0; what <= 5; what++) {
            Check.same("new count " + what, x.count(what), 0);
        }
        Check.same("new collected", x.collected(), 0);
        Check.same("new missing", x.missing(), 0);
        Check.same("new wrongStamps", x.wrongStamps(), 0);
        Check.same("new slotsToCollect", x.slotsToCollect(), 0);
        Check.same("new time", x.time(), 0);
        Check.same("new joined", x.joined(), 0.0);
        Check.same("new savedStates", x.savedStates(), 0);
        Check.same("new textLength", x.textLength(), 0);
        Check.same("new patience", x.setPatience(2), 2);
        Check.same("all are on", x.power(5, true), 10);
        Check.same("no links", x.link(1, 2, false), 0);
    }

    private static void promise2Link() {
        Check.sentence("Promise 2: link");
        MeterNetwork x = new MeterNetwork();
        Check.same("first link", x.link(0, 1, true), 1);
        Check.same("the same link, told the other way", x.link(1, 0, true), 1);
        Check.same("second link", x.link(9, 0, true), 2);
        Check.same("both directions", x.isConnected(0, 9) && x.isConnected(9, 0), true);
        Check.same("saved also if nothing changes", x.savedStates(), 3);
        Check.same("removed the other way", x.link(0, 9, false), 1);
        Check.same("removed twice", x.link(0, 9, false), 1);
        Check.same("not connected", x.isConnected(9, 0), false);
        Check.same("undone", x.undo(), 4);
        Check.same("still removed", x.isConnected(0, 9), false);
        x.undo();
        Check.same("back", x.isConnected(0, 9), true);
        x.power(1, false);
        Check.same("a link counts also if a node is off", x.link(1, 2, true), 3);
        Check.index("link(-1, 0)", x, () -> x.link(-1, 0, true));
        Check.index("link(0, -1)", x, () -> x.link(0, -1, true));
        Check.index("link(10, 0)", x, () -> x.link(10, 0, true));
        Check.index("link(0, 10)", x, () -> x.link(0, 10, false));
        Check.index("link(10, 10)", x, () -> x.link(10, 10, true));
        Check.index("link(-1, -1)", x, () -> x.link(-1, -1, true));
        Check.index("link(min, max)", x, () -> x.link(Integer.MIN_VALUE, Integer.MAX_VALUE, true));
        Check.argument("link(0, 0)", x, () -> x.link(0, 0, true));
        Check.argument("link(9, 9)", x, () -> x.link(9, 9, false));
        MeterNetwork all = new MeterNetwork();
        int links = 0;
        for (int a = 0; a <= 9; a++) {
            for (int b = a + 1; b <= 9; b++) {
                links++;
                Check.same("link " + a + b, all.link(a, b, true), links);
            }
        }
        Check.same("all links", links, 45);
    }

    private static void promise3Power() {
        Check.sentence("Promise 3: power");
        MeterNetwork x = Check.chain(0, 1);
        Check.same("off", x.power(0, false), 9);
        Check.same("off twice", x.power(0, false), 9);
        Check.same("another off", x.power(9, false), 8);
        Check.same("not connected", x.isConnected(0, 1), false);
        Check.same("on", x.power(0, true), 9);
        Check.same("connected", x.isConnected(0, 1), true);
        Check.same("saved each time", x.savedStates(), 5);
        x.undo();
        Check.same("undone", x.isConnected(0, 1), false);
        Check.same("on again", x.power(9, true), 9);
        Check.index("power(-1)", x, () -> x.power(-1, true));
        Check.index("power(10)", x, () -> x.power(10, false));
        Check.index("power(min)", x, () -> x.power(Integer.MIN_VALUE, false));
    }

    private static void promise4Jump() {
        Check.sentence("Promise 4: jump");
        MeterNetwork x = new MeterNetwork();
        Check.same("forward", x.jump(1, 100), 100);
        Check.same("forward again", x.jump(1, 100), 200);
        Check.same("back", x.jump(1, -100), 100);
        Check.same("another meter", x.jump(9, -100), -100);
        Check.same("not at all", x.jump(9, 0), -100);
        Check.same("saved each time", x.savedStates(), 5);
        Check.same("clock", x.clock(1), 100);
        x.take(1, 5);
        x.jump(1, 7);
        Check.same("the stamp stays", Check.stored(x, 1, 0), "1/0/5/0/100");
        x.undo();
        Check.same("undone", x.clock(1), 100);
        Check.index("jump(0)", x, () -> x.jump(0, 0));
        Check.index("jump(-1)", x, () -> x.jump(-1, 0));
        Check.index("jump(10)", x, () -> x.jump(10, 0));
        Check.index("jump(0, 101)", x, () -> x.jump(0, 101));
        Check.argument("jump(1, 101)", x, () -> x.jump(1, 101));
        Check.argument("jump(1, -101)", x, () -> x.jump(1, -101));
        Check.argument("jump(9, min)", x, () -> x.jump(9, Integer.MIN_VALUE));
    }

    private static void promise5SetFaults() {
        Check.sentence("Promise 5: setFaults");
        MeterNetwork x = new MeterNetwork();
        Check.same("first", x.setFaults(1, 9), 0);
        Check.same("second", x.setFaults(1, 3), 9);
        Check.same("another", x.setFaults(9, 1), 0);
        Check.same("to none", x.setFaults(1, 0), 3);
        Check.same("now", x.faults(1), 0);
        Check.same("saved each time", x.savedStates(), 4);
        x.undo();
        Check.same("undone", x.faults(1), 3);
        Check.index("setFaults(0)", x, () -> x.setFaults(0, 0));
        Check.index("setFaults(10)", x, () -> x.setFaults(10, 0));
        Check.index("setFaults(-1, -1)", x, () -> x.setFaults(-1, -1));
        Check.argument("setFaults(1, -1)", x, () -> x.setFaults(1, -1));
        Check.argument("setFaults(1, 10)", x, () -> x.setFaults(1, 10));
    }

    private static void promise6SetPatience() {
        Check.sentence("Promise 6: setPatience");
        MeterNetwork x = new MeterNetwork();
        Check.same("most", x.setPatience(5), 2);
        Check.same("least", x.setPatience(1), 5);
        Check.argument("setPatience(0)", x, () -> x.setPatience(0));
        Check.argument("setPatience(6)", x, () -> x.setPatience(6));
        Check.argument("setPatience(-1)", x, () -> x.setPatience(-1));
        Check.same("kept after refusals", x.setPatience(3), 1);
        Check.same("saved each time", x.savedStates(), 3);
        x.undo();
        Check.same("undone", x.setPatience(4), 1);
        for (int rounds = 1; rounds <= 5; rounds++) {
            MeterNetwork y = Check.chain(0, 1);
            y.setPatience(rounds);
            y.run(1);
            y.link(0, 1, false);
            // The meter 1 heard 0 at the time 0, and looks at its parent in the slots 1, 11, 21 ..
            for (int slots = 1; slots <= 10 * rounds; slots++) {
                y.run(1);
            }
            Check.same("patience " + rounds + " holds", y.parent(1), 0);
            y.run(1);
            Check.same("patience " + rounds + " ends", y.parent(1), -1);
        }
    }

    private static void promise14IsConnected() {
        Check.sentence("Promise 14: isConnected");
        MeterNetwork x = Check.chain(0, 1, 2);
        Check.same("linked", x.isConnected(1, 2), true);
        Check.same("linked, the other way", x.isConnected(2, 1), true);
        Check.same("not over a third", x.isConnected(0, 2), false);
        Check.same("with itself", x.isConnected(1, 1), false);
        x.power(2, false);
        Check.same("b is off", x.isConnected(1, 2), false);
        Check.same("a is off", x.isConnected(2, 1), false);
        Check.same("the others", x.isConnected(0, 1), true);
        Check.index("isConnected(-1, 0)", x, () -> x.isConnected(-1, 0));
        Check.index("isConnected(0, -1)", x, () -> x.isConnected(0, -1));
        Check.index("isConnected(10, 10)", x, () -> x.isConnected(10, 10));
        Check.index("isConnected(9, 10)", x, () -> x.isConnected(9, 10));
    }

    private static void promise15Parent() {
        Check.sentence("Promise 15: parent");
        MeterNetwork x = Check.chain(0, 1, 2);
        x.run(1);
        Check.same("after the slot of 0", x.parent(1), 0);
        Check.same("not yet", x.parent(2), -1);
        x.run(1);
        Check.same("after the slot of 1", x.parent(2), 1);
        x.run(100);
        Check.same("the collector", x.parent(0), -1);
        x.power(2, false);
        Check.same("also if it is off", x.parent(2), 1);
        Check.index("parent(-1)", x, () -> x.parent(-1));
        Check.index("parent(10)", x, () -> x.parent(10));
    }

    private static void promise16Depth() {
        Check.sentence("Promise 16: depth");
        MeterNetwork x = Check.chain(0, 1, 2, 3, 4, 5, 6, 7, 8, 9);
        x.run(5);
        Check.same("reached", x.depth(5), 5);
        Check.same("not yet", x.depth(6), -1);
        x.run(5);
        for (int node = 0; node <= 9; node++) {
            Check.same("depth " + node, x.depth(node), node);
        }
        Check.index("depth(-1)", x, () -> x.depth(-1));
        Check.index("depth(10)", x, () -> x.depth(10));
    }

    private static void promise17Clock() {
        Check.sentence("Promise 17: clock");
        MeterNetwork x = new MeterNetwork();
        x.jump(3, -50);
        x.run(20);
        Check.same("the collector", x.clock(0), 20);
        Check.same("a meter", x.clock(9), 20);
        Check.same("one that jumped", x.clock(3), -30);
        x.power(3, false);
        Check.same("one that is off", x.clock(3), -30);
        Check.index("clock(-1)", x, () -> x.clock(-1));
        Check.index("clock(10)", x, () -> x.clock(10));
    }

    private static void promise18Silence() {
        Check.sentence("Promise 18: silence");
        MeterNetwork x = Check.chain(0, 1);
        Check.same("no parent", x.silence(1), -1);
        x.run(1);
        Check.same("one slot", x.silence(1), 1);
        x.run(9);
        Check.same("ten slots", x.silence(1), 10);
        x.run(1);
        Check.same("heard again", x.silence(1), 1);
        x.link(0, 1, false);
        x.run(10);
        Check.same("not heard", x.silence(1), 11);
        x.run(20);
        Check.same("dropped", x.silence(1), -1);
        Check.index("silence(0)", x, () -> x.silence(0));
        Check.index("silence(-1)", x, () -> x.silence(-1));
        Check.index("silence(10)", x, () -> x.silence(10));
    }

    private static void promise19Faults() {
        Check.sentence("Promise 19: faults");
        MeterNetwork x = Check.chain(0, 1);
        x.setFaults(1, 2);
        Check.same("set", x.faults(1), 2);
        Check.same("another meter", x.faults(2), 0);
        x.take(1, 5);
        x.run(2);
        Check.same("one lost", x.faults(1), 1);
        x.run(10);
        Check.same("two lost", x.faults(1), 0);
        x.run(10);
        Check.same("none left", x.faults(1), 0);
        Check.index("faults(0)", x, () -> x.faults(0));
        Check.index("faults(-1)", x, () -> x.faults(-1));
        Check.index("faults(10)", x, () -> x.faults(10));
    }

    private static void promise20Hops() {
        Check.sentence("Promise 20: hops");
        MeterNetwork x = Check.chain(0, 1, 2, 3, 4, 5, 6, 7, 8, 9);
        for (int node = 0; node <= 9; node++) {
            Check.same("hops " + node, x.hops(node), node);
        }
        x.link(0, 5, true);
        Check.same("a shorter way", x.hops(9), 5);
        Check.same("a shorter way back", x.hops(3), 3);
        Check.same("also back", x.hops(4), 2);
        x.power(5, false);
        Check.same("off", x.hops(5), -1);
        Check.same("the longer way", x.hops(4), 4);
        Check.same("no way", x.hops(6), -1);
        x.power(0, false);
        Check.same("the collector is off", x.hops(0), -1);
        Check.same("no way to a collector that is off", x.hops(1), -1);
        for (int middle = 1; middle <= 9; middle++) {
            for (int node = 1; node <= 9; node++) {
                if (node != middle) {
                    Check.same("hops " + node + " over " + middle, Check.chain(0, middle, node).hops(node), 2);
                }
            }
        }
        Check.index("hops(-1)", x, () -> x.hops(-1));
        Check.index("hops(10)", x, () -> x.hops(10));
        Check.index("hops(33)", x, () -> x.hops(33));
    }
}
