import java.util.function.Consumer;
import java.util.function.Supplier;

/** What the tests share: answers compared, refusals checked, the wrong ones printed and counted. */
final class Check {
    private static int passed = 0;
    private static int failed = 0;
    private static String sentence = "";

    private Check() {
    }

    /** The sentence of the document that the checks from here on are about; complaints begin with it. */
    static void sentence(String words) {
        sentence = words;
    }

    /** A test that is cut off by an exception is a complaint, and the next ones are run all the same. */
    static void test(Runnable test) {
        try {
            test.run();
        } catch (RuntimeException e) {
            tell(false, "a call threw " + e);
        }
    }

    static void same(String what, long got, long want) {
        tell(got == want, what + " answered " + got + ", due is " + want);
    }

    static void same(String what, double got, double want) {
        tell(got == want, what + " answered " + got + ", due is " + want);
    }

    static void same(String what, boolean got, boolean want) {
        tell(got == want, what + " answered " + got + ", due is " + want);
    }

    static void same(String what, String got, String want) {
        tell(got.equals(want), what + " answered\n  " + got + "\n  due is\n  " + want);
    }

    /** The call throws exactly the exception that is due (no class below it), and changes nothing. */
    static void refused(String what, MeterNetwork x, Class<?> due, Runnable call) {
        String before = picture(x);
        throwsExactly(what, due, call);
        same(what + " and what it left", picture(x), before);
    }

    static void throwsExactly(String what, Class<?> due, Runnable call) {
        Class<?> thrown = null;
        try {
            call.run();
        } catch (RuntimeException e) {
            thrown = e.getClass();
        }
        tell(thrown == due, what + " threw " + thrown + ", due is " + due);
    }

    /**
     * As refused(), but looks at all that the object holds, also behind its queries: the text, the
     * patience, the links and the power of nodes that are off, and each saved state. To see all of
     * them changes the object, so that the maker makes it more than once.
     */
    static void refusedWithoutTrace(String what, Supplier<MeterNetwork> maker, Class<?> due,
            Consumer<MeterNetwork> call) {
        String before = insideOf(maker.get()) + savedIn(maker.get());
        MeterNetwork x = maker.get();
        throwsExactly(what, due, () -> call.accept(x));
        String after = insideOf(x);
        MeterNetwork y = maker.get();
        throwsExactly(what + " once more", due, () -> call.accept(y));
        same(what + " and what it left inside", after + savedIn(y), before);
    }

    /** All that the object holds now, but for its saved states; asking changes it. */
    static String insideOf(MeterNetwork x) {
        StringBuilder s = new StringBuilder(picture(x)).append(hiddenIn(x));
        if (x.errorPosition() == -1) {
            s.append("\n  executed ").append(x.runText()).append(picture(x));
        }
        return s.toString();
    }

    /** All that the saved states hold, from the newest to the oldest; asking uses them up. */
    static String savedIn(MeterNetwork x) {
        StringBuilder s = new StringBuilder();
        for (int states = 0; states < 6 && x.savedStates() > 0; states++) {
            s.append("\n  saved ").append(x.undo()).append(picture(x)).append(hiddenIn(x));
        }
        return s.toString();
    }

    /**
     * What no query tells: the patience, and which nodes are on and linked. Each is asked by a call
     * that is undone; so where six states are saved, the oldest of them is lost.
     */
    static String hiddenIn(MeterNetwork x) {
        StringBuilder s = new StringBuilder(" patience ").append(x.setPatience(2));
        x.undo();
        for (int node = 0; node <= 9; node++) {
            s.append(node == 0 ? " on " : " ").append(x.power(node, true));
            x.undo();
        }
        for (int a = 0; a <= 9; a++) {
            for (int b = a + 1; b <= 9; b++) {
                s.append(b == 1 ? " links " : " ").append(x.link(a, b, true));
                x.undo();
            }
        }
        return s.toString();
    }

    static void index(String what, MeterNetwork x, Runnable call) {
        refused(what, x, IndexOutOfBoundsException.class, call);
    }

    static void argument(String what, MeterNetwork x, Runnable call) {
        refused(what, x, IllegalArgumentException.class, call);
    }

    static void state(String what, MeterNetwork x, Runnable call) {
        refused(what, x, IllegalStateException.class, call);
    }

    /** All that the queries answer. */
    static String picture(MeterNetwork x) {
        StringBuilder s = new StringBuilder(stateOf(x));
        s.append(' ').append(x.savedStates()).append(' ').append(x.textLength()).append(' ').append(x.errorPosition());
        return s.toString();
    }

    /**
     * All that the queries about the state answer. It takes more than the 512 calls that the document
     * promises an object for; the program counts no calls, so that its answers stay good.
     */
    static String stateOf(MeterNetwork x) {
        StringBuilder s = new StringBuilder();
        for (int node = 0; node <= 9; node++) {
            s.append(" node ").append(node).append(": ").append(x.parent(node)).append(' ').append(x.depth(node));
            s.append(' ').append(x.clock(node)).append(' ').append(x.hops(node)).append(' ');
            for (int other = 0; other <= 9; other++) {
                s.append(x.isConnected(node, other) ? '+' : '.');
            }
            if (node > 0) {
                s.append(' ').append(x.silence(node)).append(' ').append(x.faults(node));
                s.append(' ').append(x.stored(node));
                for (int index = 0; index < x.stored(node); index++) {
                    s.append(' ').append(stored(x, node, index));
                }
                for (int number = 0; number < 12; number++) {
                    s.append(' ').append(x.copies(node, number));
                }
            }
        }
        for (int index = 0; index < x.collected(); index++) {
            s.append(" got ").append(collected(x, index));
        }
        s.append(" counts");
        for (int what = 0; what <= 5; what++) {
            s.append(' ').append(x.count(what));
        }
        s.append(' ').append(x.missing()).append(' ').append(x.wrongStamps()).append(' ').append(x.slotsToCollect());
        s.append(' ').append(x.ifRun(100)).append(' ').append(x.time()).append(' ').append(x.joined());
        return s.toString();
    }

    /** A reading of a store as meter/number/value/time/stamp. */
    static String stored(MeterNetwork x, int meter, int index) {
        StringBuilder s = new StringBuilder();
        for (int part = 0; part <= 4; part++) {
            s.append(part == 0 ? "" : "/").append(x.storedReading(meter, index, part));
        }
        return s.toString();
    }

    /** A collected reading as meter/number/value/time/stamp. */
    static String collected(MeterNetwork x, int index) {
        StringBuilder s = new StringBuilder();
        for (int part = 0; part <= 4; part++) {
            s.append(part == 0 ? "" : "/").append(x.collectedReading(index, part));
        }
        return s.toString();
    }

    /** A new network in which each node of the row has a link to the next. */
    static MeterNetwork chain(int... nodes) {
        MeterNetwork x = new MeterNetwork();
        for (int i = 1; i < nodes.length; i++) {
            x.link(nodes[i - 1], nodes[i], true);
        }
        return x;
    }

    static void write(MeterNetwork x, String text) {
        x.clearText();
        for (int i = 0; i < text.length(); i++) {
            x.appendText(text.charAt(i));
        }
    }

    static void finish() {
        System.out.println(passed + " passed, " + failed + " failed");
        if (failed != 0) {
            System.exit(1);
        }
    }

    private static void tell(boolean right, String complaint) {
        if (right) {
            passed++;
        } else {
            failed++;
            System.out.println((sentence.isEmpty() ? "" : "[" + sentence + "] ") + complaint);
        }
    }
}
