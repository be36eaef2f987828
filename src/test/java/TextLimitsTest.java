/** Section 6 at its borders: where a text stops being the beginning of a valid one, and what runText() does. */
public final class TextLimitsTest {
    private static final String DIGITS = "0123456789";
    private static final String COMMANDS = "+-!tr";

    public static void main(String[] args) {
        Check.test(TextLimitsTest::anEmptyText);
        Check.test(TextLimitsTest::theSignOfACommand);
        Check.test(TextLimitsTest::theNodesOfALink);
        Check.test(TextLimitsTest::aNodeWrittenTwice);
        Check.test(TextLimitsTest::theNodeOfASwitch);
        Check.test(TextLimitsTest::theMeterOfAReading);
        Check.test(TextLimitsTest::theValueOfAReading);
        Check.test(TextLimitsTest::theSlotsOfARun);
        Check.test(TextLimitsTest::leadingZeros);
        Check.test(TextLimitsTest::tooLarge);
        Check.test(TextLimitsTest::endsTooEarly);
        Check.test(TextLimitsTest::aSignBehindAWholeCommand);
        Check.test(TextLimitsTest::aSemicolonAtTheEnd);
        Check.test(TextLimitsTest::theSmallestIndex);
        Check.test(TextLimitsTest::ofAnyLength);
        Check.test(TextLimitsTest::commandsForWhichTheMethodWouldThrow);
        Check.test(TextLimitsTest::switchesAndLinksOfText);
        Check.test(TextLimitsTest::readingsOfText);
        Check.test(TextLimitsTest::slotsOfText);
        Check.finish();
    }

    private static int position(String text) {
        MeterNetwork x = new MeterNetwork();
        Check.write(x, text);
        int position = x.errorPosition();
        Check.same("asked again: \"" + text + "\"", x.errorPosition(), position);
        return position;
    }

    private static void position(String text, int due) {
        Check.same("errorPosition of \"" + text + "\"", position(text), due);
    }

    /** Behind these signs come the allowed ones alone, of all that a text can hold. */
    private static void behind(String signs, String allowed) {
        for (char sign = 32; sign <= 126; sign++) {
            int position = position(signs + sign);
            boolean isError = position == signs.length();
            Check.same("an error at the end of \"" + signs + sign + "\"", isError, allowed.indexOf(sign) < 0);
            Check.same("no error before the end of \"" + signs + sign + "\"",
                    position == -1 || position >= signs.length(), true);
        }
    }

    private static void anEmptyText() {
        Check.sentence("Section 6: the error position of an empty text is its length");
        position("", 0);
        MeterNetwork x = new MeterNetwork();
        x.appendText('r');
        x.appendText('1');
        Check.same("valid", x.errorPosition(), -1);
        x.clearText();
        Check.same("emptied", x.errorPosition(), 0);
    }

    private static void theSignOfACommand() {
        Check.sentence("Section 6: a command is one of the following");
        behind("", COMMANDS);
        behind("r1;", COMMANDS);
        behind("+01;-12;!3;t4,5;", COMMANDS);
    }

    private static void theNodesOfALink() {
        Check.sentence("Section 6: +ab and -ab: digits from 0 to 9, b not the same as a");
        for (String sign : new String[] {"+", "-"}) {
            behind(sign, DIGITS);
            for (int a = 0; a <= 9; a++) {
                behind(sign + a, DIGITS.replace(String.valueOf(a), ""));
            }
            behind(sign + "09", ";");
            behind("r5;" + sign + "9", "012345678");
        }
    }

    private static void aNodeWrittenTwice() {
        Check.sentence("Section 6: the error position of a node written twice");
        for (int a = 0; a <= 9; a++) {
            position("+" + a + a, 2);
            position("-" + a + a, 2);
            position("!0;+" + a + a, 5);
            position("+" + a + (9 - a), -1);
            position("+" + a + (9 - a) + ";-" + (9 - a) + a, -1);
        }
    }

    private static void theNodeOfASwitch() {
        Check.sentence("Section 6: !a: a digit from 0 to 9");
        behind("!", DIGITS);
        behind("!0", ";");
        behind("!9", ";");
    }

    private static void theMeterOfAReading() {
        Check.sentence("Section 6: tm,<n>: m a digit from 1 to 9");
        behind("t", "123456789");
        behind("t1", ",");
        behind("t9", ",");
    }

    private static void theValueOfAReading() {
        Check.sentence("Section 6: tm,<n>: a value from 0 to 999");
        behind("t1,", DIGITS);
        behind("t1,0", ";");
        for (String value : new String[] {"1", "9", "10", "99"}) {
            behind("t1," + value, DIGITS + ";");
        }
        for (String value : new String[] {"100", "101", "500", "998", "999"}) {
            behind("t1," + value, ";");
        }
        for (int value = 0; value <= 1200; value++) {
            position("t1," + value, value <= 999 ? -1 : 6);
        }
    }

    private static void theSlotsOfARun() {
        Check.sentence("Section 6: r<n>: slots, 1 to 100");
        behind("r", "123456789");
        behind("r1", DIGITS + ";");
        behind("r9", DIGITS + ";");
        behind("r10", "0;");
        for (String slots : new String[] {"11", "12", "20", "99", "100"}) {
            behind("r" + slots, ";");
        }
        for (int slots = 1; slots <= 1200; slots++) {
            position("r" + slots, slots <= 100 ? -1 : slots / 10 == 100 ? 4 : 3);
        }
    }

    private static void leadingZeros() {
        Check.sentence("Section 6: the error position of a number with leading zeros (0 is written as \"0\")");
        position("t1,0", -1);
        position("t1,00", 4);
        position("t1,01", 4);
        position("t1,099", 4);
        position("t1,0999", 4);
        position("t1,000", 4);
        position("r0", 1);
        position("r00", 1);
        position("r01", 1);
        position("r0100", 1);
        position("r1;r05", 4);
        position("t1,10", -1);
        position("t1,100", -1);
        position("r10", -1);
    }

    private static void tooLarge() {
        Check.sentence("Section 6: the error position of a number that is too large");
        position("t1,999", -1);
        position("t1,1000", 6);
        position("t1,9990", 6);
        position("t1,99999999999999999999", 6);
        position("t1,4294967296", 6);
        position("r100", -1);
        position("r101", 3);
        position("r110", 3);
        position("r199", 3);
        position("r200", 3);
        position("r999", 3);
        position("r1000", 4);
        position("r4294967297", 3);
        position("r1;r101", 6);
        position("r100;r100", -1);
    }

    private static void endsTooEarly() {
        Check.sentence("Section 6: the error position of a text that ends too early is its length");
        String text = "+01;-98;!7;t4,5;r";
        for (int length = 0; length <= text.length(); length++) {
            boolean isWhole = length == 3 || length == 7 || length == 10 || length == 15;
            position(text.substring(0, length), isWhole ? -1 : length);
        }
    }

    private static void aSignBehindAWholeCommand() {
        Check.sentence("Section 6: the error position of a sign behind a whole command");
        position("+01 ", 3);
        position("+012", 3);
        position("-01+", 3);
        position("!0!", 2);
        position("!01", 2);
        position("t1,5,", 4);
        position("t1,5r5", 4);
        position("t1,0t", 4);
        position("t1,999 ", 6);
        position("r5 ", 2);
        position("r5r5", 2);
        position("r5,r5", 2);
        position("r5:r5", 2);
        position("r100r", 4);
    }

    private static void aSemicolonAtTheEnd() {
        Check.sentence("Section 6: the error position of a text with a semicolon at the end");
        position("r5;", 3);
        position("+01;", 4);
        position("!0;", 3);
        position("t1,0;", 5);
        position("r5;r5;", 6);
        Check.sentence("Section 6: one semicolon between two commands");
        position(";", 0);
        position(";r5", 0);
        position("r5;;", 3);
        position("r5;;r5", 3);
        position("r5;r5", -1);
        position("+01;;", 4);
    }

    private static void theSmallestIndex() {
        Check.sentence("Section 6: the smallest index i: what comes behind an error does not count");
        position("x", 0);
        position("xr5", 0);
        position("r5x;r5", 2);
        position("r5x;;", 2);
        position("+00;r101;x", 2);
        position("r5;t0,5;+11", 4);
    }

    /** A text of 80 characters that lacks its end has no error in it, although no more fits into the buffer. */
    private static void ofAnyLength() {
        Check.sentence("Section 6: no valid text of any length: also beyond 80 characters");
        String most = "r7" + ";r7".repeat(25);
        Check.same("its length", most.length(), 77);
        position(most + ";!3", -1);
        position(most + ";r7", -1);
        position(most + ";!", 79);
        position(most + ";+9", 80);
        position(most + ";t9", 80);
        position(most + "0;r", 80);
        position(most + "0;!", 80);
        position(most + ";!;", 79);
        position(most + "00;", 78);
    }

    private static void commandsForWhichTheMethodWouldThrow() {
        Check.sentence("Promise 12: execution ends before the first command for which the method would throw");
        String six = "t3,1;t3,2;t3,3;t3,4;t3,5;t3,6";
        MeterNetwork x = new MeterNetwork();
        Check.write(x, six + ";t3,7;!1;r9;+01");
        Check.same("executed", x.runText(), 6);
        Check.same("what comes before stands", x.stored(3), 6);
        Check.same("what comes behind is not executed", x.time() + (x.isConnected(0, 1) ? 1 : 0), 0);
        Check.same("no switch either", x.power(2, true), 10);
        Check.same("the text stays", x.textLength(), 44);
        MeterNetwork y = new MeterNetwork();
        Check.write(y, six + ";t3,7");
        Check.same("the last command of the text", y.runText(), 6);
        Check.same("the first command of the text", executedWithAFullStore("t3,7;r1"), 0);
        Check.same("the only command of the text", executedWithAFullStore("t3,7"), 0);
        Check.same("the second one", executedWithAFullStore("r1;t3,7"), 1);
        Check.same("another meter", executedWithAFullStore("t4,7;t5,7"), 2);
        Check.sentence("Promise 12: also if a command has made room in the store meanwhile");
        Check.same("room for one", executedWithAFullStore("+03;r4;t3,7;t3,8"), 3);
    }

    private static int executedWithAFullStore(String text) {
        MeterNetwork x = new MeterNetwork();
        for (int value = 0; value < 6; value++) {
            x.take(3, value);
        }
        Check.write(x, text);
        return x.runText();
    }

    private static void switchesAndLinksOfText() {
        Check.sentence("Section 6: !a: switched off if it is on, and on if it is off");
        for (int node = 0; node <= 9; node++) {
            MeterNetwork x = Check.chain(node, (node + 1) % 10);
            Check.write(x, "!" + node);
            Check.same("executed", x.runText(), 1);
            Check.same("off", x.isConnected(node, (node + 1) % 10), false);
            Check.same("executed", x.runText(), 1);
            Check.same("on", x.isConnected(node, (node + 1) % 10), true);
        }
        Check.sentence("Section 6: +ab: a and b have a link then; -ab: no link then");
        MeterNetwork x = new MeterNetwork();
        Check.write(x, "+09;+90;+12;-43;+78;-87");
        Check.same("also if nothing changes", x.runText(), 6);
        Check.same("0 and 9", x.isConnected(0, 9), true);
        Check.same("1 and 2", x.isConnected(2, 1), true);
        Check.same("7 and 8", x.isConnected(7, 8), false);
        Check.same("3 and 4", x.isConnected(3, 4), false);
        Check.same("links", x.link(3, 4, false), 2);
    }

    private static void readingsOfText() {
        Check.sentence("Section 6: tm,<n>: take a reading, also if the meter is off, with the clock as it is then");
        MeterNetwork x = new MeterNetwork();
        x.jump(9, 5);
        Check.write(x, "!9;t9,0;r7;t9,999;t1,10");
        Check.same("executed", x.runText(), 5);
        Check.same("the least value", Check.stored(x, 9, 0), "9/0/0/0/5");
        Check.same("the greatest value", Check.stored(x, 9, 1), "9/1/999/7/12");
        Check.same("the meter 1", Check.stored(x, 1, 0), "1/0/10/7/7");
    }

    private static void slotsOfText() {
        Check.sentence("Section 6: r<n>: run slots, 1 to 100");
        MeterNetwork x = new MeterNetwork();
        Check.write(x, "r1");
        Check.same("executed, not collected", x.runText(), 1);
        Check.same("the least", x.time(), 1);
        Check.write(x, "r100");
        x.runText();
        Check.same("the greatest", x.time(), 101);
        Check.write(x, "r10;r20;r99");
        Check.same("commands", x.runText(), 3);
        Check.same("all of them", x.time(), 230);
    }
}
