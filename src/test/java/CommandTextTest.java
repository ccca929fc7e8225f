/** Promises 27 to 30. */
public final class CommandTextTest {
    private static final Due DUE = new Due();

    private CommandTextTest() {
    }

    public static void main(String[] args) {
        testAppend();
        testClearBuffer();
        testErrors();
        testNoErrors();
        testRunsIncompleteTexts();
        testRun();
        testRunStopsBeforeThrowing();
        testRunIsUndoable();
        testNumbersInRun();
        DUE.end();
    }

    private static void testAppend() {
        BarcodeWand wand = new BarcodeWand();
        int[] wrong = {32, 127, 0, -1, 255, Integer.MIN_VALUE, Integer.MAX_VALUE};
        for (int code : wrong) {
            DUE.isIllegalArgument("append(" + code + ")", () -> wand.append(code));
        }
        DUE.is("append(33)", wand.append(33), 1);
        DUE.is("append(126)", wand.append(126), 2);
        for (int k = 2; k < 60; k++) {
            DUE.is("append number " + k, wand.append('p'), k + 1);
        }
        DUE.isIllegalState("a 61st character", () -> wand.append('p'));
        DUE.isIllegalArgument("a wrong 61st character", () -> wand.append(32));
        DUE.is("the length stays", wand.clearBuffer(), 60);
        DUE.is("nothing is saved", wand.savedStates(), 0);
    }

    private static void testClearBuffer() {
        BarcodeWand wand = new BarcodeWand();
        DUE.is("clearBuffer of nothing", wand.clearBuffer(), 0);
        Due.type(wand, "p12");
        DUE.is("clearBuffer", wand.clearBuffer(), 3);
        DUE.is("clearBuffer again", wand.clearBuffer(), 0);
        DUE.is("append after clearBuffer", wand.append('s'), 1);
        DUE.is("clearBuffer saves nothing", wand.savedStates(), 0);
    }

    private static void dueError(String text, int want) {
        BarcodeWand wand = new BarcodeWand();
        Due.type(wand, text);
        DUE.is("firstError of " + text, wand.firstError(), want);
        DUE.isIllegalArgument("run of " + text, wand::run);
        DUE.is("the buffer stays", wand.clearBuffer(), text.length());
    }

    private static void testErrors() {
        String[] atFirst = {"x", ";", "0", "-", "=", ",", "P1", "!", "~"};
        for (String text : atFirst) {
            dueError(text, 0);
        }
        String[] atSecond = {"pp", "p;", "p-1", "p=", "p,", "ss", "s-1=0", "s;", "s=1", "s,", "d0,1", "b0,1", "d,",
            "d-1", "d;", "b=", "p!1"};
        for (String text : atSecond) {
            dueError(text, 1);
        }
        dueError("p123456789", 9);
        dueError("p00000000;p000000000", 19);
        dueError("p1p", 2);
        dueError("p1-", 2);
        dueError("p1=1", 2);
        dueError("p1,1", 2);
        dueError("p1;;", 3);
        dueError("p1;1", 3);
        dueError("s00=1", 2);
        dueError("s01=1", 2);
        dueError("s41=1", 2);
        dueError("s49=1", 2);
        dueError("s50=1", 2);
        dueError("s99=1", 2);
        dueError("s400=1", 3);
        dueError("s100=1", 3);
        dueError("s1,", 2);
        dueError("s1;", 2);
        dueError("s1-", 2);
        dueError("s1==", 3);
        dueError("s1=;", 3);
        dueError("s1=--1", 4);
        dueError("s1=-0", 4);
        dueError("s1=-;", 4);
        dueError("s1=1-", 4);
        dueError("s1=10", 4);
        dueError("s1=00", 4);
        dueError("s1=-10", 5);
        dueError("s1=1=", 4);
        dueError("s1=1,", 4);
        dueError("d51,1", 2);
        dueError("d60,1", 2);
        dueError("d99,1", 2);
        dueError("d500,1", 3);
        dueError("d100,1", 3);
        dueError("d1=1", 2);
        dueError("d1;", 2);
        dueError("d1-", 2);
        dueError("d1,0", 3);
        dueError("d1,,", 3);
        dueError("d1,;", 3);
        dueError("d1,-1", 3);
        dueError("d1,51", 4);
        dueError("d1,60", 4);
        dueError("d1,500", 5);
        dueError("d1,100", 5);
        dueError("d1,1,", 4);
        dueError("b1,1=", 4);
        dueError("b51,1", 2);
        dueError("b1,51", 4);
        dueError("p1;s0=1;d1,1;b1,1;x", 18);
        dueError("xp1;y", 0);
    }

    private static void testNoErrors() {
        String[] texts = {"", "p", "p1", "p00000000", "p12345678", "p1;", "p1;s", "s", "s0", "s0=", "s0=0", "s9=9",
            "s1=-", "s1=-9", "s40=-1", "s39=5", "s10=0", "d", "d1", "d1,", "d1,1", "d50,50", "d9,9", "d49,10",
            "b", "b5", "b50,", "b50,5", "b50,50", "b1,1;", "p1;s0=1;d1,1;b1,1;p2"};
        for (String text : texts) {
            BarcodeWand wand = new BarcodeWand();
            Due.type(wand, text);
            DUE.is("firstError of " + text, wand.firstError(), text.length());
            DUE.is("firstError changes nothing: " + text, wand.clearBuffer(), text.length());
        }
        BarcodeWand wand = new BarcodeWand();
        for (int k = 0; k < 20; k++) {
            Due.type(wand, "p1;");
        }
        DUE.is("firstError of a full buffer that goes on", wand.firstError(), 60);
        DUE.isIllegalArgument("run of a full buffer that goes on", wand::run);
    }

    private static void testRunsIncompleteTexts() {
        String[] texts = {"", "p", "p1;", "s", "s1", "s1=", "s1=-", "d", "d1", "d1,", "b50", "b50,", "p1;s", "p1;d1,1;",
            "p1;b1"};
        for (String text : texts) {
            BarcodeWand wand = new BarcodeWand();
            Due.type(wand, text);
            DUE.isIllegalArgument("run of " + text, wand::run);
            DUE.is("the buffer stays: " + text, wand.clearBuffer(), text.length());
            DUE.is("nothing is saved: " + text, wand.savedStates(), 0);
            DUE.is("nothing is printed: " + text, wand.elements(), 0);
        }
    }

    private static void testRun() {
        BarcodeWand wand = new BarcodeWand();
        Due.type(wand, "p07;d10,12;s3=-9;b9,9;s3=0;s12=4");
        DUE.is("run", wand.run(), 6);
        DUE.is("the buffer is empty", wand.clearBuffer(), 0);
        DUE.is("elements", wand.elements(), 17);
        DUE.is("labelDigit(0)", wand.labelDigit(0), 0);
        DUE.is("labelDigit(1)", wand.labelDigit(1), 7);
        DUE.is("one state is saved", wand.savedStates(), 1);
        DUE.is("readings", wand.successes() + wand.failures(), 2);
        DUE.is("code(0)", wand.code(0), 79);
        DUE.is("codeLength(0)", wand.codeLength(0), 3);
        DUE.is("the first time backwards", wand.time(0), 18);
        DUE.is("smudge 3", wand.smudge(3, 0), 0);
        DUE.is("smudge 12", wand.smudge(12, 0), 4);
    }

    private static void testRunStopsBeforeThrowing() {
        String[] texts = {"s0=1", "d1,1", "b1,1", "s0=1;p1", "d1,1;p1"};
        for (String text : texts) {
            BarcodeWand wand = new BarcodeWand();
            Due.type(wand, text);
            DUE.is("run of " + text, wand.run(), 0);
            DUE.is("elements after " + text, wand.elements(), 0);
            DUE.is("savedStates after " + text, wand.savedStates(), 1);
            DUE.is("the buffer after " + text, wand.clearBuffer(), 0);
        }
        BarcodeWand wand = new BarcodeWand();
        Due.type(wand, "p1;s12=1;s13=1;p12");
        DUE.is("run up to an element that is not there", wand.run(), 2);
        DUE.is("elements", wand.elements(), 13);
        Due.type(wand, "s16=1;p12");
        DUE.is("run of an element that is not there", wand.run(), 0);
        Due.type(wand, "p12;s16=-3;s40=0;d1,1");
        DUE.is("run of another one", wand.run(), 2);
        DUE.is("nothing is drawn", wand.times(), 0);
        DUE.is("the smudge before it", wand.smudge(16, 0), -3);
    }

    private static void testRunIsUndoable() {
        BarcodeWand wand = new BarcodeWand();
        wand.print(5, 1);
        Due.type(wand, "p1;d20,20;s0=9;b20,20");
        wand.run();
        DUE.is("saved", wand.savedStates(), 2);
        DUE.is("successes", wand.successes(), 1);
        DUE.is("failures", wand.failures(), 1);
        Due.type(wand, "p9");
        DUE.is("undo of run", wand.undo(), 1);
        DUE.is("labelDigit after undo", wand.labelDigit(0), 5);
        DUE.is("times after undo", wand.times(), 0);
        DUE.is("codes after undo", wand.codes(), 0);
        DUE.is("readings after undo", wand.successes() + wand.failures(), 0);
        DUE.is("the buffer after undo", wand.clearBuffer(), 2);
    }

    private static void testNumbersInRun() {
        for (int element = 0; element <= 40; element++) {
            for (int tenths = -9; tenths <= 9; tenths++) {
                BarcodeWand wand = new BarcodeWand();
                Due.type(wand, "p00000000;s" + element + "=" + tenths);
                DUE.is("run of s" + element + "=" + tenths, wand.run(), 2);
                DUE.is("the smudge", wand.smudge(element, 0), tenths);
            }
        }
        BarcodeWand one = new BarcodeWand();
        BarcodeWand other = new BarcodeWand();
        for (int period = 1; period <= 50; period++) {
            Due.type(one, "p123;d" + period + "," + (51 - period));
            one.run();
            other.print(123, 3);
            other.draw(period, 51 - period, false);
            DUE.is("time(0) with " + period, one.time(0), other.time(0));
            DUE.is("time(20) with " + period, one.time(20), other.time(20));
        }
        Due.type(one, "p123;b50,1");
        one.run();
        DUE.is("drawn backwards", one.time(0), 2);
    }
}
