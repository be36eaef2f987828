import java.util.regex.Pattern;

/** Promises 9 to 12 (texts), 13 (undo), and 30 to 34 (counts). */
public final class TextsTest {
    private static final String SIGNS = "+-!tr,;0129 ";

    /** Each text that can become valid becomes so with one of these behind it. */
    private static final String[] ENDS = {"", "1", "2", "12", "1,0", ",0", "0", "r1"};

    private static final String COMMAND =
            "([+-]([0-9])(?!\\N)[0-9]|![0-9]|t[1-9],(0|[1-9][0-9]{0,2})|r([1-9][0-9]?|100))";
    private static final Pattern VALID =
            Pattern.compile(COMMAND.replace("\\N", "\\2") + "(;" + COMMAND.replace("\\N", "\\7") + ")*");

    public static void main(String[] args) {
        Check.test(TextsTest::promise9AppendText);
        Check.test(TextsTest::promise10ClearText);
        Check.test(TextsTest::promise11ErrorPosition);
        Check.test(TextsTest::promise11AllShortTexts);
        Check.test(TextsTest::promise12RunText);
        Check.test(TextsTest::promise12Switches);
        Check.test(TextsTest::promise12AsTheMethodsDo);
        Check.test(TextsTest::promise12EndsBeforeARefusal);
        Check.test(TextsTest::promise13Undo);
        Check.test(TextsTest::promise30Time);
        Check.test(TextsTest::promise31Count);
        Check.test(TextsTest::promise32Joined);
        Check.test(TextsTest::promise33SavedStates);
        Check.test(TextsTest::promise34TextLength);
        Check.finish();
    }

    private static void promise9AppendText() {
        Check.sentence("Promise 9: appendText");
        MeterNetwork x = new MeterNetwork();
        Check.same("the least code", x.appendText(32), 1);
        Check.same("the greatest code", x.appendText(126), 2);
        Check.same("nothing is saved", x.savedStates(), 0);
        Check.argument("31", x, () -> x.appendText(31));
        Check.argument("127", x, () -> x.appendText(127));
        Check.argument("-1", x, () -> x.appendText(-1));
        Check.argument("a code whose low half is a character", x, () -> x.appendText(65536 + 'r'));
        for (int length = 3; length <= 80; length++) {
            Check.same("append", x.appendText('0'), length);
        }
        Check.state("the 81st", x, () -> x.appendText('0'));
        Check.argument("a wrong code at a full text", x, () -> x.appendText(127));
        x.clearText();
        Check.same("after clearing", x.appendText('r'), 1);
        x.appendText('3');
        x.appendText('7');
        Check.same("at the end", x.errorPosition(), -1);
        x.runText();
        Check.same("in their order", x.time(), 37);
    }

    private static void promise10ClearText() {
        Check.sentence("Promise 10: clearText");
        MeterNetwork x = new MeterNetwork();
        Check.same("empty", x.clearText(), 0);
        Check.write(x, "r1;r2");
        Check.same("before", x.clearText(), 5);
        Check.same("after", x.textLength(), 0);
        Check.same("what stood there is gone", x.errorPosition(), 0);
        x.appendText('r');
        Check.same("also behind a new one", x.errorPosition(), 1);
        Check.same("nothing is saved", x.savedStates(), 0);
    }

    private static void promise11ErrorPosition() {
        Check.sentence("Promise 11: errorPosition");
        position("", 0);
        position("+12", -1);
        position("-09", -1);
        position("+11", 2);
        position("-00", 2);
        position("+1", 2);
        position("+", 1);
        position("+a", 1);
        position("+123", 3);
        position("!0", -1);
        position("!9", -1);
        position("!", 1);
        position("!x", 1);
        position("!10", 2);
        position("t1,0", -1);
        position("t9,999", -1);
        position("t1,1000", 6);
        position("t1,00", 4);
        position("t1,05", 4);
        position("t0", 1);
        position("t1", 2);
        position("t1,", 3);
        position("t1;", 2);
        position("t1,-1", 3);
        position("r1", -1);
        position("r100", -1);
        position("r101", 3);
        position("r110", 3);
        position("r99", -1);
        position("r999", 3);
        position("r1000", 4);
        position("r0", 1);
        position("r01", 1);
        position("r", 1);
        position("r20", -1);
        position("r200", 3);
        position("R1", 0);
        position(" r1", 0);
        position("r1 ", 2);
        position(";", 0);
        position("r1;", 3);
        position("r1;;r1", 3);
        position("r1;r", 4);
        position("r1;+01;!0;t3,7;-01", -1);
        position("r1;+01;!0;t3,7;-11", 17);
        position("r1,", 2);
        StringBuilder full = new StringBuilder();
        for (int i = 0; i < 20; i++) {
            full.append("r99;");
        }
        position(full.toString(), 80);
        full.setCharAt(79, '9');
        position(full.toString(), 79);
        position(full.substring(0, 79), -1);
        position(full.substring(0, 79) + "x", 79);
        MeterNetwork x = new MeterNetwork();
        Check.write(x, "r1");
        x.errorPosition();
        x.errorPosition();
        Check.same("nothing changes", x.savedStates() + x.time(), 0);
        Check.same("the text stays", x.textLength(), 2);
        Check.write(x, "r1;x;r2");
        Check.same("a wrong text", x.errorPosition(), 3);
        Check.same("it stays too", x.textLength(), 7);
        Check.same("and is wrong still", x.errorPosition(), 3);
    }

    private static void position(String text, int want) {
        MeterNetwork x = new MeterNetwork();
        Check.write(x, text);
        Check.same("errorPosition of \"" + text + "\"", x.errorPosition(), want);
    }

    /** All texts of up to five of the SIGNS, compared with what a pattern says. */
    private static void promise11AllShortTexts() {
        Check.sentence("Promise 11: errorPosition, all short texts");
        MeterNetwork x = new MeterNetwork();
        String complaint = compareTexts(x, "", 5);
        Check.same("all short texts", complaint, "");
    }

    private static String compareTexts(MeterNetwork x, String text, int more) {
        Check.write(x, text);
        int want = positionByPattern(text);
        if (x.errorPosition() != want) {
            return text + ": " + x.errorPosition() + ", due is " + want;
        }
        // Behind an error nothing else can come, but for one sign to see that.
        if (more > 0 && (want == -1 || want >= text.length() - 1)) {
            for (int i = 0; i < SIGNS.length(); i++) {
                String complaint = compareTexts(x, text + SIGNS.charAt(i), more - 1);
                if (!complaint.isEmpty()) {
                    return complaint;
                }
            }
        }
        return "";
    }

    static int positionByPattern(String text) {
        for (int i = 0; i < text.length(); i++) {
            if (!canBecomeValid(text.substring(0, i + 1))) {
                return i;
            }
        }
        return isValid(text) ? -1 : text.length();
    }

    private static boolean canBecomeValid(String text) {
        for (String end : ENDS) {
            if (isValid(text + end)) {
                return true;
            }
        }
        return false;
    }

    private static boolean isValid(String text) {
        return VALID.matcher(text).matches();
    }

    private static void promise12RunText() {
        Check.sentence("Promise 12: runText");
        MeterNetwork x = new MeterNetwork();
        Check.state("an empty text", x, () -> x.runText());
        Check.write(x, "r5;r");
        Check.state("a text that ends too early", x, () -> x.runText());
        Check.write(x, "r5;t1,1000");
        Check.state("a text with an error", x, () -> x.runText());
        Check.write(x, "+01;+12;!2;!2;!3;t1,999;t2,0;r2;-12");
        Check.same("all commands", x.runText(), 9);
        Check.same("linked", x.isConnected(0, 1), true);
        Check.same("linked and not again", x.isConnected(1, 2), false);
        Check.same("switched off", x.power(3, false), 9);
        Check.same("taken and collected", Check.collected(x, 0), "1/0/999/0/0");
        Check.same("taken", Check.stored(x, 2, 0), "2/0/0/0/0");
        Check.same("time", x.time(), 2);
        Check.same("the text stays", x.textLength(), 35);
        Check.same("saved as one call", x.savedStates(), 2);
        x.undo();
        x.undo();
        Check.same("undone as one call", x.time() + x.collected() + x.count(0), 0);
        Check.same("on again", x.hops(0), 0);
        Check.same("the text is not undone", x.textLength(), 35);
        Check.same("once more", x.runText(), 9);
        Check.same("and again", x.runText(), 9);
        Check.same("time of both", x.time(), 4);
        Check.same("off and on", x.power(3, true), 10);
    }

    private static void promise12Switches() {
        Check.sentence("Promise 12: runText, switches");
        MeterNetwork x = Check.chain(0, 9);
        Check.write(x, "!9");
        Check.same("a command", x.runText(), 1);
        Check.same("off if it was on", x.isConnected(0, 9), false);
        Check.same("a command again", x.runText(), 1);
        Check.same("on if it was off", x.isConnected(0, 9), true);
        Check.write(x, "!0;!9;!9");
        Check.same("three commands", x.runText(), 3);
        Check.same("0 is off", x.hops(0), -1);
        Check.same("9 is on", x.power(0, true), 10);
    }

    private static void promise12AsTheMethodsDo() {
        Check.sentence("Promise 12: runText, as the methods do");
        MeterNetwork x = new MeterNetwork();
        MeterNetwork y = new MeterNetwork();
        Check.write(x, "+01;+32;+21;!9;t3,17;r100;t2,5;-12;r30;t9,1;!9;r1");
        Check.write(y, "+01;+32;+21;!9;t3,17;r100;t2,5;-12;r30;t9,1;!9;r1");
        Check.same("all", x.runText(), 12);
        y.link(0, 1, true);
        y.link(3, 2, true);
        y.link(2, 1, true);
        y.power(9, false);
        y.take(3, 17);
        y.run(100);
        for (int i = 0; i < 6; i++) {
            y.undo();
        }
        y.link(0, 1, true);
        y.link(3, 2, true);
        y.link(2, 1, true);
        y.power(9, false);
        y.take(3, 17);
        y.run(100);
        y.take(2, 5);
        y.link(1, 2, false);
        y.run(30);
        y.take(9, 1);
        y.power(9, true);
        y.run(1);
        for (int i = 0; i < 5; i++) {
            x.setFaults(1, 0);
        }
        Check.same("the same", Check.picture(x), Check.picture(y));
    }

    private static void promise12EndsBeforeARefusal() {
        Check.sentence("Promise 12: runText, ends before a refusal");
        MeterNetwork x = new MeterNetwork();
        Check.write(x, "t1,1;t1,2;t1,3;t1,4;t1,5;t1,6;t1,7;r9;t2,5");
        Check.same("six fit", x.runText(), 6);
        Check.same("nothing behind it is done", x.time() + x.stored(2), 0);
        Check.same("none fits", x.runText(), 0);
        Check.same("saved also if none is executed", x.savedStates(), 2);
        x.undo();
        Check.same("six are there", x.stored(1), 6);
        x.undo();
        Check.same("none is there", x.stored(1), 0);
        Check.write(x, "r7;t1,1;t1,2;t1,3;t1,4;t1,5;t1,6;t1,7;!1");
        Check.same("one and six", x.runText(), 7);
        Check.same("what came before it stands", x.time(), 7);
        Check.same("what comes behind it does not", x.power(2, true), 10);
    }

    private static void promise13Undo() {
        Check.sentence("Promise 13: undo");
        MeterNetwork x = new MeterNetwork();
        Check.state("nothing is saved", x, () -> x.undo());
        x.link(0, 1, true);
        x.take(1, 5);
        x.setPatience(4);
        x.setFaults(1, 3);
        String[] pictures = new String[8];
        MeterNetwork y = Check.chain(0, 1);
        for (int i = 0; i < 8; i++) {
            pictures[i] = Check.stateOf(y);
            change(y, i);
        }
        Check.same("six are saved at most", y.savedStates(), 6);
        for (int i = 7; i >= 2; i--) {
            Check.same("that remain", y.undo(), i - 2);
            Check.same("undone to " + i, Check.stateOf(y), pictures[i]);
        }
        Check.state("the oldest were discarded", y, () -> y.undo());
        Check.same("the patience is undone", patienceAfterUndo(), 2);
        change(y, 3);
        Check.same("saved again", y.savedStates(), 1);
        Check.same("undone again", y.undo(), 0);
        x.run(50);
        Check.write(x, "r1");
        x.undo();
        Check.same("the text is no part of the state", x.textLength(), 2);
        Check.same("the faults are", x.faults(1), 3);
        Check.same("the counts are", x.count(1), 0);
        Check.same("the time is", x.time(), 0);
    }

    private static void change(MeterNetwork y, int i) {
        switch (i) {
            case 0:
                y.take(1, 7);
                break;
            case 1:
                y.run(37);
                break;
            case 2:
                y.jump(1, 5);
                break;
            case 3:
                y.setFaults(1, 4);
                break;
            case 4:
                y.take(1, 9);
                break;
            case 5:
                y.run(12);
                break;
            case 6:
                y.power(0, false);
                break;
            default:
                y.run(64);
                break;
        }
    }

    private static int patienceAfterUndo() {
        MeterNetwork x = new MeterNetwork();
        x.setPatience(5);
        x.undo();
        return x.setPatience(1);
    }

    private static void promise30Time() {
        Check.sentence("Promise 30: time");
        MeterNetwork x = new MeterNetwork();
        x.run(1);
        Check.same("one", x.time(), 1);
        x.run(100);
        Check.same("more", x.time(), 101);
        for (int node = 0; node <= 9; node++) {
            x.power(node, false);
        }
        x.run(15);
        Check.same("also if all are off", x.time(), 116);
    }

    private static void promise31Count() {
        Check.sentence("Promise 31: count");
        MeterNetwork x = Check.chain(0, 1, 2);
        x.run(2);
        for (int value = 0; value < 6; value++) {
            x.take(1, value);
        }
        x.take(2, 5);
        x.setFaults(1, 2);
        x.setPatience(1);
        x.run(1);
        String before = allCounts(x);
        Check.same("taken", x.count(0), 7);
        Check.same("sent", x.count(1), 1);
        Check.same("refused", x.count(3), 1);
        x.run(30);
        Check.same("taken, some of them collected", x.count(0), 7);
        Check.same("collected", x.collected() > 0, true);
        Check.same("sent by both", x.count(1), 1 + 3 + 3);
        Check.same("duplicates", x.count(2), 2);
        Check.same("refused until there is room", x.count(3), 1 + 2);
        Check.same("lost", x.count(4), 2);
        x.link(0, 1, false);
        x.run(30);
        Check.same("dropped", x.count(5), 2);
        x.undo();
        Check.same("undone", x.count(5), 0);
        x.undo();
        x.undo();
        Check.same("all undone", allCounts(x), before);
        Check.argument("count(-1)", x, () -> x.count(-1));
        Check.argument("count(6)", x, () -> x.count(6));
        Check.argument("count(max)", x, () -> x.count(Integer.MAX_VALUE));
    }

    private static String allCounts(MeterNetwork x) {
        StringBuilder s = new StringBuilder();
        for (int what = 0; what <= 5; what++) {
            s.append(x.count(what)).append(' ');
        }
        return s.toString();
    }

    private static void promise32Joined() {
        Check.sentence("Promise 32: joined");
        MeterNetwork x = Check.chain(0, 1, 2, 3, 4, 5, 6, 7, 8, 9);
        for (int meters = 0; meters <= 9; meters++) {
            Check.same("joined", x.joined(), meters / 9.0);
            x.run(1);
        }
        x.power(5, false);
        Check.same("also those that are off", x.joined(), 1.0);
    }

    private static void promise33SavedStates() {
        Check.sentence("Promise 33: savedStates");
        MeterNetwork x = new MeterNetwork();
        x.link(0, 1, true);
        Check.same("link", x.savedStates(), 1);
        x.power(0, true);
        Check.same("power", x.savedStates(), 2);
        x.jump(1, 0);
        Check.same("jump", x.savedStates(), 3);
        x.setFaults(1, 0);
        Check.same("setFaults", x.savedStates(), 4);
        x.setPatience(2);
        Check.same("setPatience", x.savedStates(), 5);
        x.take(1, 0);
        Check.same("take", x.savedStates(), 6);
        x.run(1);
        Check.same("six at most", x.savedStates(), 6);
        x.undo();
        x.undo();
        Check.same("undone", x.savedStates(), 4);
        Check.write(x, "r1");
        Check.same("texts are not saved", x.savedStates(), 4);
        x.run(1);
        Check.same("run", x.savedStates(), 5);
        x.runText();
        Check.same("runText", x.savedStates(), 6);
    }

    private static void promise34TextLength() {
        Check.sentence("Promise 34: textLength");
        MeterNetwork x = new MeterNetwork();
        for (int length = 1; length <= 80; length++) {
            x.appendText(' ');
            Check.same("length", x.textLength(), length);
        }
        x.clearText();
        Check.same("cleared", x.textLength(), 0);
    }
}
