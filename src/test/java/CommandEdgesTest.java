/** The edges of the command text, of undo and of the forecasts (promises 24 to 33). */
public final class CommandEdgesTest {
    private static final Due DUE = new Due();
    private static final String DIGITS = "0123456789";
    private static final String FROM_ONE = "123456789";
    private static final String KINDS = "psdb";

    private CommandEdgesTest() {
    }

    public static void main(String[] args) {
        testAppendedCodes();
        testFullBuffer();
        testErrorsOfPrint();
        testErrorsOfSmudge();
        testErrorsOfDrawing();
        testErrorBehindAnError();
        testErrorAtTheEndOfAFullBuffer();
        testIncompleteTexts();
        testLongestTexts();
        testGreatestNumbersOfCommands();
        testRunWithoutACommandThatCanBeDone();
        testRunUpToARefusedCommand();
        testRunWhenSixStatesAreSaved();
        testSixAndSevenStates();
        testOnlyUndoableCallsSave();
        testForecastsOfFirstAndLastPeriods();
        testGreatestSmudgeAtBothEnds();
        testSmudgesThatReadBackwardsOnly();
        testDigestOfNothing();
        testDigestOfEverythingFull();
        DUE.end();
    }

    private static BarcodeWand typed(String text) {
        BarcodeWand wand = new BarcodeWand();
        Due.type(wand, text);
        return wand;
    }

    // "a character code, 33 to 126", "Returns the new length of the buffer."
    private static void testAppendedCodes() {
        for (int code = 33; code <= 126; code++) {
            BarcodeWand wand = new BarcodeWand();
            DUE.is("append(" + code + ")", wand.append(code), 1);
            DUE.is("append of another one", wand.append(159 - code), 2);
        }
        BarcodeWand wand = typed("p");
        // as characters some of these would be digits
        int[] wrong = {Integer.MIN_VALUE, -65487, -1, 0, 32, 127, 128, 255, 256 + 49, 65536 + 49, 65585 + 65536,
            Integer.MAX_VALUE};
        for (int code : wrong) {
            DUE.isIllegalArgument("append(" + code + ")", () -> wand.append(code));
        }
        DUE.is("the length stays", wand.append('1'), 2);
        DUE.is("the buffer is p1", wand.run(), 1);
    }

    // "The buffer contains at most 60 characters and is empty at first."
    private static void testFullBuffer() {
        BarcodeWand wand = new BarcodeWand();
        DUE.is("firstError of an empty buffer", wand.firstError(), 0);
        DUE.is("length of an empty buffer", wand.clearBuffer(), 0);
        for (int size = 1; size <= 60; size++) {
            DUE.is("length", wand.append(33 + size), size);
        }
        DUE.isIllegalState("append to a full buffer", () -> wand.append(33));
        DUE.isIllegalState("append to a full buffer", () -> wand.append(126));
        DUE.isIllegalArgument("wrong append to a full buffer", () -> wand.append(32));
        DUE.isIllegalArgument("wrong append to a full buffer", () -> wand.append(127));
        DUE.is("length of a full buffer", wand.clearBuffer(), 60);
        DUE.is("length of the emptied buffer", wand.append('p'), 1);
    }

    /** Of all 94 characters behind a text without an error, these alone are no errors. */
    private static void dueNext(String text, String allowed) {
        BarcodeWand wand = new BarcodeWand();
        for (int code = 33; code <= 126; code++) {
            Due.retype(wand, text);
            DUE.is("firstError of " + text, wand.firstError(), text.length());
            wand.append(code);
            boolean isAllowed = allowed.indexOf(code) >= 0;
            DUE.is("firstError of " + text + (char) code, wand.firstError(), text.length() + (isAllowed ? 1 : 0));
        }
    }

    // "\"p\" and 1 to 8 digits (zeros can be the first ones)"
    private static void testErrorsOfPrint() {
        dueNext("", KINDS);
        dueNext("p", DIGITS);
        String digits = "p";
        for (int count = 1; count <= 7; count++) {
            digits += count % 2 == 0 ? "9" : "0";
            dueNext(digits, DIGITS + ";");
        }
        dueNext(digits + "0", ";");
        dueNext("p00000000", ";");
        dueNext("p99999999", ";");
        dueNext("p1;", KINDS);
        dueNext("p12345678;p", DIGITS);
        dueNext("p1234567;p1", DIGITS + ";");
    }

    // "An element is a number from 0 to 40, a smudge is a digit, or \"-\" and a digit from 1 to 9"
    private static void testErrorsOfSmudge() {
        dueNext("s", DIGITS);
        dueNext("s0", "=");
        dueNext("s1", DIGITS + "=");
        dueNext("s3", DIGITS + "=");
        dueNext("s4", "0=");
        dueNext("s5", "=");
        dueNext("s9", "=");
        String[] twoDigits = {"s10", "s11", "s39", "s40"};
        for (String text : twoDigits) {
            dueNext(text, "=");
            dueNext(text + "=", DIGITS + "-");
        }
        dueNext("s0=", DIGITS + "-");
        dueNext("s0=-", FROM_ONE);
        String[] whole = {"s0=0", "s0=1", "s0=9", "s40=-1", "s40=-9"};
        for (String text : whole) {
            dueNext(text, ";");
            dueNext(text + ";", KINDS);
        }
        dueNext("s3=-9;s4", "0=");
        dueNext("s3=-9;s4=", DIGITS + "-");
    }

    // "\"d\", a period, \",\", and a period", "Elements and periods have no leading zeros."
    private static void testErrorsOfDrawing() {
        String[] kinds = {"d", "b"};
        for (String kind : kinds) {
            String[] starts = {kind, kind + "1,", kind + "50,"};
            for (String start : starts) {
                String end = start.equals(kind) ? "," : ";";
                dueNext(start, FROM_ONE);
                dueNext(start + "1", DIGITS + end);
                dueNext(start + "4", DIGITS + end);
                dueNext(start + "5", "0" + end);
                dueNext(start + "6", end);
                dueNext(start + "9", end);
                dueNext(start + "10", end);
                dueNext(start + "49", end);
                dueNext(start + "50", end);
            }
            dueNext(kind + "1,1;", KINDS);
            dueNext("p1;" + kind + "5", "0,");
        }
    }

    // "Returns the index of the first character that is an error"
    private static void testErrorBehindAnError() {
        DUE.is("an error at the very first", typed("~").firstError(), 0);
        DUE.is("errors only", typed("~~~").firstError(), 0);
        DUE.is("all right behind the error", typed("xp1").firstError(), 0);
        DUE.is("two errors", typed("p1;s0=x;d0,0").firstError(), 6);
        BarcodeWand wand = typed("p1;x");
        DUE.is("firstError", wand.firstError(), 3);
        DUE.is("firstError does not change the buffer", wand.firstError(), 3);
        Due.type(wand, "p1");
        DUE.is("firstError of a longer buffer", wand.firstError(), 3);
    }

    private static String repeated(String text, int times) {
        StringBuilder all = new StringBuilder();
        for (int k = 0; k < times; k++) {
            all.append(text);
        }
        return all.toString();
    }

    // "the length of the buffer if there is none", "if no command text, however long, begins with the characters"
    private static void testErrorAtTheEndOfAFullBuffer() {
        String open = repeated("p1;", 19) + "d50";
        BarcodeWand wand = typed(open);
        DUE.is("no error in 60 characters that go on", wand.firstError(), 60);
        DUE.isIllegalArgument("run of them", wand::run);
        Due.retype(wand, repeated("p1;", 20));
        DUE.is("no error in 60 characters that end with ;", wand.firstError(), 60);
        DUE.isIllegalArgument("run of them", wand::run);
        Due.retype(wand, repeated("p1;", 19) + "d51");
        DUE.is("an error at the last of 60 characters", wand.firstError(), 59);
        DUE.isIllegalArgument("run of them", wand::run);
        Due.retype(wand, repeated("p1;", 19) + "d1,");
        DUE.is("a second period that has no room", wand.firstError(), 60);
        DUE.is("the buffer stays", wand.clearBuffer(), 60);
        DUE.is("no label", wand.elements(), 0);
    }

    // "if the buffer is not a complete command text (the buffer stays)"
    private static void testIncompleteTexts() {
        String[] whole = {"p1", "p00000000", "s0=0", "s40=-9", "d1,1", "d50,50", "b1,1", "b50,50", "p1;s1=-1;d1,1;b1,1"};
        for (String text : whole) {
            for (int length = 0; length < text.length(); length++) {
                String part = text.substring(0, length);
                boolean isWhole = part.matches("p\\d+|d50,5|b50,5|p1;s1=-1|p1;s1=-1;d1,1");
                BarcodeWand wand = typed(part);
                DUE.is("firstError of " + part, wand.firstError(), length);
                if (!isWhole) {
                    DUE.isIllegalArgument("run of " + part, wand::run);
                    DUE.is("the buffer stays, " + part, wand.clearBuffer(), length);
                    DUE.is("nothing is saved by " + part, wand.savedStates(), 0);
                } else {
                    wand.run();
                    DUE.is("the buffer is emptied of " + part, wand.clearBuffer(), 0);
                    DUE.is("one state is saved by " + part, wand.savedStates(), 1);
                }
            }
            BarcodeWand wand = typed(text + ";");
            DUE.isIllegalArgument("run of " + text + ";", wand::run);
            DUE.is("the buffer stays, " + text + ";", wand.clearBuffer(), text.length() + 1);
        }
    }

    // at most 60 characters, so at most 20 commands
    private static void testLongestTexts() {
        BarcodeWand wand = typed(repeated("p1;", 19) + "p12");
        DUE.is("run of 20 commands in 60 characters", wand.run(), 20);
        DUE.is("the last one of them", wand.elements(), 17);
        DUE.is("the buffer is empty", wand.clearBuffer(), 0);
        DUE.is("one state is saved", wand.savedStates(), 1);
        DUE.is("undo of 20 commands", wand.undo(), 0);
        DUE.is("no label again", wand.elements(), 0);
        Due.type(wand, "p99999999;s40=-9;s40=9;s40=-9;d50,50;b50,50;d50,50;b50,50;p1");
        DUE.is("run of ten long commands", wand.run(), 9);
        DUE.is("two digits at last", wand.elements(), 13);
        DUE.is("four readings", wand.successes() + wand.failures(), 4);
        wand.print(0, 1);
        Due.type(wand, repeated("d9,9;", 11) + "b9,9;");
        DUE.isIllegalArgument("run of 60 characters that go on", wand::run);
        wand.clearBuffer();
        Due.type(wand, repeated("d9,9;", 11) + "b9,10");
        DUE.is("run of twelve drawings", wand.run(), 12);
        DUE.is("count of twelve drawings", wand.count(wand.codes() - 1), 12);
    }

    // the numbers at both ends of what each command takes
    private static void testGreatestNumbersOfCommands() {
        BarcodeWand wand = typed("p99999999;s0=-9;s40=9;d50,50");
        DUE.is("run with the greatest numbers", wand.run(), 4);
        DUE.is("the check digit", wand.labelDigit(8), 6);
        DUE.is("time of the narrowest element", wand.time(0), 5);
        DUE.is("time of the last element", wand.time(40), 145);
        DUE.is("the smudge of element 0", wand.smudge(0, 0), -9);
        DUE.is("the smudge of element 40", wand.smudge(40, 0), 9);
        Due.type(wand, "p00000000;s40=0;s0=-1;d1,1");
        DUE.is("run with the least numbers", wand.run(), 4);
        DUE.is("nine digits all the same", wand.elements(), 41);
        DUE.is("the first digit", wand.labelDigit(0), 0);
        DUE.is("the least time", wand.time(0), 1);
        DUE.is("the last time", wand.time(40), 2);
        Due.type(wand, "p0;s12=-9;b1,50;p00;b50,1");
        DUE.is("run of both periods backwards", wand.run(), 5);
        DUE.is("the right end with the period 1", wand.time(0), 2);
        DUE.is("the left end with the period 50", wand.time(16), 50);
    }

    // "Undoable, as one call, also if no command is executed."
    private static void testRunWithoutACommandThatCanBeDone() {
        String[] texts = {"s0=0", "s40=-9", "d1,1", "b50,50", "d1,1;p1", "s0=1;p12345678;d1,1"};
        for (String text : texts) {
            BarcodeWand wand = typed(text);
            DUE.is("run without a label of " + text, wand.run(), 0);
            DUE.is("the buffer is emptied", wand.clearBuffer(), 0);
            DUE.is("a state is saved", wand.savedStates(), 1);
            DUE.is("nothing is printed", wand.elements(), 0);
            DUE.is("nothing is drawn", wand.times(), 0);
            DUE.is("nothing is read", wand.failures(), 0);
            DUE.is("undo of nothing", wand.undo(), 0);
            DUE.is("the buffer stays empty", wand.clearBuffer(), 0);
        }
    }

    // "up to the first one whose method would throw an exception"
    private static void testRunUpToARefusedCommand() {
        for (int count = 1; count <= 8; count++) {
            BarcodeWand wand = new BarcodeWand();
            wand.print(1, count);
            int size = wand.elements();
            if (size <= 40) {
                Due.type(wand, "s" + (size - 1) + "=5;s" + size + "=5;s0=5");
                DUE.is("run up to the element " + size, wand.run(), 1);
                DUE.is("nothing behind it", wand.smudge(0, 0), 0);
            } else {
                Due.type(wand, "s40=5;s0=5");
                DUE.is("run with 41 elements", wand.run(), 2);
            }
            DUE.is("the last element", wand.smudge(size - 1, 0), 5);
        }
        BarcodeWand wand = typed("s0=1;p1;p12;p123");
        DUE.is("run refused at the first of four", wand.run(), 0);
        Due.type(wand, "p1;d20,20;s13=0;d20,20;p2");
        DUE.is("run refused at the third of five", wand.run(), 2);
        DUE.is("one reading", wand.successes(), 1);
        DUE.is("the label stays", wand.labelDigit(0), 1);
        Due.type(wand, "p2;s12=-1;s12=-2;s13=-3");
        DUE.is("run refused at the last of four", wand.run(), 3);
        DUE.is("the last smudge before it", wand.smudge(12, 0), -2);
    }

    // "when one more is saved, the oldest one is discarded": one for a whole run
    private static void testRunWhenSixStatesAreSaved() {
        BarcodeWand wand = new BarcodeWand();
        for (int k = 1; k <= 6; k++) {
            wand.measure(k);
        }
        Due.type(wand, "p1;d1,1;d2,2;d3,3;d4,4;d5,5;d6,6;d7,7");
        DUE.is("run of eight commands", wand.run(), 8);
        DUE.is("six states", wand.savedStates(), 6);
        for (int left = 5; left >= 0; left--) {
            DUE.is("undo", wand.undo(), left);
            DUE.is("times after undo", wand.times(), left + 1);
            DUE.is("elements after undo", wand.elements(), 0);
        }
        DUE.isIllegalState("the first state was discarded", wand::undo);
        DUE.is("its time stays", wand.time(0), 1);
    }

    // "At most 6 states are saved", "if no state is saved", "Returns the number of saved states, 0 to 6."
    private static void testSixAndSevenStates() {
        for (int calls = 0; calls <= 14; calls++) {
            BarcodeWand wand = new BarcodeWand();
            for (int k = 1; k <= calls; k++) {
                wand.measure(k);
            }
            int saved = Math.min(calls, 6);
            DUE.is("saved by " + calls, wand.savedStates(), saved);
            for (int left = saved - 1; left >= 0; left--) {
                DUE.is("undo of " + calls, wand.undo(), left);
                DUE.is("saved after undo", wand.savedStates(), left);
            }
            DUE.isIllegalState("one undo more than " + saved, wand::undo);
            DUE.is("times after all undos", wand.times(), calls - saved);
            DUE.is("saved after a refused undo", wand.savedStates(), 0);
            wand.measure(9999);
            DUE.is("saved by one more", wand.savedStates(), 1);
        }
    }

    // "Each method that is marked \"Undoable\" saves the state": the others do not
    private static void testOnlyUndoableCallsSave() {
        BarcodeWand wand = new BarcodeWand();
        wand.print(12, 2);
        wand.draw(20, 20, false);
        wand.elements();
        wand.width(0);
        wand.labelDigit(0);
        wand.times();
        wand.time(0);
        wand.result();
        wand.reason(false);
        wand.digit(8);
        wand.nearest(0);
        wand.codes();
        wand.code(0);
        wand.codeLength(0);
        wand.count(0);
        wand.successes();
        wand.failures();
        wand.ifDrawn(1, 1, true);
        wand.greatestSmudge(0);
        wand.leastTolerance();
        wand.append('p');
        wand.firstError();
        wand.clearBuffer();
        wand.savedStates();
        wand.digest();
        DUE.is("saved by print and draw alone", wand.savedStates(), 2);
        wand.smudge(0, 0);
        DUE.is("saved by smudge", wand.savedStates(), 3);
        wand.clearMeasurement();
        DUE.is("saved by clearMeasurement", wand.savedStates(), 4);
        wand.read();
        DUE.is("saved by read", wand.savedStates(), 5);
        wand.undo();
        DUE.is("undo saves nothing", wand.savedStates(), 4);
        DUE.is("undo takes back the failure", wand.failures(), 0);
        wand.undo();
        DUE.is("undo of an undo there is not", wand.times(), 17);
    }

    // "left: 1 to 50", "right: 1 to 50": a forecast at the edges is what draw() then answers
    private static void testForecastsOfFirstAndLastPeriods() {
        int[] periods = {1, 2, 49, 50};
        boolean[] directions = {false, true};
        for (int left : periods) {
            for (int right : periods) {
                for (boolean isBackwards : directions) {
                    BarcodeWand wand = new BarcodeWand();
                    wand.print(12345678, 8);
                    int forecast = wand.ifDrawn(left, right, isBackwards);
                    DUE.is("no times by ifDrawn", wand.times(), 0);
                    DUE.is("no failures by ifDrawn", wand.failures(), 0);
                    DUE.is("draw as forecast", wand.draw(left, right, isBackwards), forecast);
                    if (left == right) {
                        DUE.is("one speed", forecast, isBackwards ? -1 : 0);
                    }
                }
            }
        }
    }

    // "the greatest smudge, -9 to 9, for which the result is 0, plus 100; NONE if there is none"
    private static void testGreatestSmudgeAtBothEnds() {
        BarcodeWand wand = new BarcodeWand();
        wand.print(12345678, 8);
        DUE.is("the greatest smudge of all", wand.greatestSmudge(40), 109);
        DUE.is("the smudge 0 at the first element", wand.greatestSmudge(0), 104);
        DUE.isOutOfBounds("greatestSmudge(41)", () -> wand.greatestSmudge(41));
        DUE.isOutOfBounds("greatestSmudge(-1)", () -> wand.greatestSmudge(-1));
        // the bar, 20 tenths and its smudge, must be less than 3 times the space, and more than 3 halves of it
        int[] greatest = {-1, -1, -1, 91, 94, 97, 100, 103, 106, 109, 109, 109, 109, 109, 109, 109, 109, 109, 109};
        for (int space = -9; space <= 9; space++) {
            wand.smudge(39, space);
            DUE.is("the last bar beside the smudge " + space, wand.greatestSmudge(40), greatest[space + 9]);
        }
        wand.smudge(39, 0);
        wand.smudge(0, 9);
        DUE.is("none at the last element", wand.greatestSmudge(40), BarcodeWand.NONE);
        DUE.is("none at the check digit", wand.greatestSmudge(38), BarcodeWand.NONE);
    }

    // "for which the result is 0": -1 does not do. The elements of 55 between other ends are those of 00 backwards.
    private static void testSmudgesThatReadBackwardsOnly() {
        BarcodeWand wand = new BarcodeWand();
        wand.print(5, 1);
        wand.smudge(0, 9);
        wand.smudge(12, -9);
        DUE.is("drawn forwards, read backwards", wand.ifDrawn(20, 20, false), -1);
        DUE.is("drawn backwards, read forwards", wand.ifDrawn(20, 20, true), 0);
        DUE.is("no result 0 by the last element", wand.greatestSmudge(12), BarcodeWand.NONE);
        DUE.is("no result 0 by the first element", wand.greatestSmudge(0), BarcodeWand.NONE);
        DUE.is("draw forwards", wand.draw(20, 20, false), -1);
        DUE.is("another code than the label's", wand.code(0), 0);
        DUE.is("its digit", wand.digit(1), 0);
        wand.smudge(0, 0);
        DUE.is("the last element alone", wand.greatestSmudge(12), 109);
        wand.smudge(12, 0);
        DUE.is("the first element alone", wand.greatestSmudge(0), 104);
    }

    // "The hash starts at 4025": nine values of a new object, 0 0 1 1 1 -1 0 0 0
    private static void testDigestOfNothing() {
        long hash = 4025;
        int[] values = {0, 0, 1, 1, 1, -1, 0, 0, 0};
        for (int value : values) {
            hash = 31 * hash + value;
        }
        DUE.is("digest of a new object", new BarcodeWand().digest(), hash);
        BarcodeWand wand = new BarcodeWand();
        Due.type(wand, "p1");
        wand.setTolerance(8);
        DUE.is("digest does not tell the buffer and the tolerance itself", wand.digest(), hash);
    }

    // "in long arithmetic with overflow": 41 elements, 41 times, 10 codes
    private static void testDigestOfEverythingFull() {
        BarcodeWand wand = new BarcodeWand();
        for (int digits = 0; digits < 10; digits++) {
            wand.print(11111111 * digits, 8);
            wand.draw(20, 20, digits % 2 == 0);
        }
        wand.draw(50, 50, true);
        wand.smudge(40, -9);
        wand.smudge(20, 9);
        wand.setTolerance(8);
        wand.read();
        DUE.is("ten codes", wand.codes(), 10);
        DUE.is("41 times", wand.times(), 41);
        long[] first = {41, 41, wand.result(), wand.reason(false), wand.reason(true), wand.leastTolerance(), 10,
            wand.successes(), wand.failures()};
        long hash = 4025;
        for (long value : first) {
            hash = 31 * hash + value;
        }
        for (int k = 0; k < 41; k++) {
            hash = 31 * hash + wand.width(k);
            hash = 31 * hash + (k == 40 ? -9 : k == 20 ? 9 : 0);
            hash = 31 * hash + wand.greatestSmudge(k);
        }
        for (int k = 0; k < 41; k++) {
            hash = 31 * hash + wand.time(k);
        }
        for (int k = 0; k < 10; k++) {
            hash = 31 * hash + wand.code(k);
            hash = 31 * hash + wand.codeLength(k);
            hash = 31 * hash + wand.count(k);
        }
        DUE.is("digest of everything full", wand.digest(), hash);
        int failuresBefore = wand.failures();
        wand.digest();
        DUE.is("digest counts no reading", wand.failures(), failuresBefore);
    }
}
