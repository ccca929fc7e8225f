/** Promises 31 to 33, and that a call that throws changes nothing. */
public final class UndoTest {
    private static final Due DUE = new Due();

    private UndoTest() {
    }

    public static void main(String[] args) {
        testUndoOfEachMethod();
        testSevenStates();
        testUnchangedStatesAreSaved();
        testBufferIsNotUndone();
        testThrowingCallsChangeNothing();
        testDigest();
        DUE.end();
    }

    private static BarcodeWand usedWand() {
        BarcodeWand wand = new BarcodeWand();
        wand.print(1234, 4);
        wand.draw(20, 20, false);
        wand.print(5, 1);
        wand.draw(20, 21, true);
        wand.setTolerance(3);
        wand.smudge(4, 2);
        return wand;
    }

    private static void dueUndone(String what, BarcodeWand wand, long digest) {
        DUE.is("saved after " + what, wand.savedStates(), 6);
        DUE.is("undo of " + what, wand.undo(), 5);
        DUE.is("digest after undo of " + what, wand.digest(), digest);
        DUE.is("tolerance after undo of " + what, wand.setTolerance(3), 3);
        DUE.is("labelDigit after undo of " + what, wand.labelDigit(1), 5);
    }

    private static void testUndoOfEachMethod() {
        BarcodeWand wand = usedWand();
        long digest = wand.digest();
        wand.print(77, 2);
        dueUndone("print", wand, digest);
        wand.smudge(4, -9);
        dueUndone("smudge", wand, digest);
        wand.draw(30, 31, false);
        dueUndone("draw", wand, digest);
        wand.measure(5);
        dueUndone("measure", wand, digest);
        wand.clearMeasurement();
        dueUndone("clearMeasurement", wand, digest);
        wand.read();
        dueUndone("read", wand, digest);
        wand.setTolerance(8);
        dueUndone("setTolerance", wand, digest);
        Due.type(wand, "p999;d20,20;s3=4;b1,50");
        wand.run();
        dueUndone("run", wand, digest);
    }

    private static void testSevenStates() {
        BarcodeWand wand = new BarcodeWand();
        DUE.isIllegalState("undo of nothing", wand::undo);
        for (int k = 0; k < 20; k++) {
            wand.measure(100 + k);
            DUE.is("saved after " + (k + 1), wand.savedStates(), Math.min(k + 1, 6));
        }
        for (int k = 5; k >= 0; k--) {
            DUE.is("undo", wand.undo(), k);
            DUE.is("times after undo", wand.times(), 14 + k);
            DUE.is("savedStates after undo", wand.savedStates(), k);
        }
        DUE.isIllegalState("a seventh undo", wand::undo);
        DUE.is("times", wand.times(), 14);
        DUE.is("the last time", wand.time(13), 113);
        wand.measure(5);
        wand.measure(6);
        DUE.is("undo after the last undo", wand.undo(), 1);
        DUE.is("times after it", wand.times(), 15);
        wand.measure(7);
        DUE.is("saved after undo and measure", wand.savedStates(), 2);
        DUE.is("the time after undo and measure", wand.time(15), 7);
    }

    private static void testUnchangedStatesAreSaved() {
        BarcodeWand wand = new BarcodeWand();
        wand.setTolerance(4);
        wand.clearMeasurement();
        wand.print(5, 1);
        wand.print(5, 1);
        wand.smudge(0, 0);
        DUE.is("saved without a change", wand.savedStates(), 5);
        DUE.is("undo", wand.undo(), 4);
        DUE.is("undo", wand.undo(), 3);
        DUE.is("elements", wand.elements(), 13);
        DUE.is("undo", wand.undo(), 2);
        DUE.is("no elements", wand.elements(), 0);
    }

    private static void testBufferIsNotUndone() {
        BarcodeWand wand = new BarcodeWand();
        Due.type(wand, "p1");
        wand.measure(5);
        Due.type(wand, "2;");
        wand.undo();
        DUE.is("the buffer after undo", wand.clearBuffer(), 4);
        Due.type(wand, "p1");
        wand.run();
        wand.undo();
        DUE.is("the buffer after undo of run", wand.clearBuffer(), 0);
    }

    private static void testThrowingCallsChangeNothing() {
        BarcodeWand wand = usedWand();
        Due.type(wand, "p1;x");
        long digest = wand.digest();
        int[] wrong = {Integer.MIN_VALUE, -1, 127, Integer.MAX_VALUE};
        for (int argument : wrong) {
            DUE.isIllegalArgument("print", () -> wand.print(argument, argument));
            DUE.isOutOfBounds("smudge", () -> wand.smudge(argument, 1));
            DUE.isIllegalArgument("smudge", () -> wand.smudge(0, argument == -1 ? 10 : argument));
            DUE.isIllegalArgument("draw", () -> wand.draw(argument, argument, true));
            DUE.isIllegalArgument("measure", () -> wand.measure(argument == 127 ? 0 : argument));
            DUE.isIllegalArgument("setTolerance", () -> wand.setTolerance(argument));
            DUE.isIllegalArgument("ifDrawn", () -> wand.ifDrawn(argument, 1, true));
            DUE.isOutOfBounds("greatestSmudge", () -> wand.greatestSmudge(argument));
            DUE.isIllegalArgument("append", () -> wand.append(argument));
            DUE.isIllegalArgument("run", wand::run);
        }
        DUE.is("digest", wand.digest(), digest);
        DUE.is("saved", wand.savedStates(), 6);
        DUE.is("firstError", wand.firstError(), 3);
        DUE.is("the buffer", wand.clearBuffer(), 4);
        DUE.is("the last undo", wand.undo(), 5);
        DUE.is("undoes the smudge", wand.smudge(4, 0), 0);
        DUE.is("the tolerance", wand.setTolerance(4), 3);
    }

    /** The hash as the document lists it, from the answers of the other calls. */
    private static long hashOf(BarcodeWand wand, int[] smudges) {
        long[] first = {wand.elements(), wand.times(), wand.result(), wand.reason(false), wand.reason(true),
            wand.leastTolerance(), wand.codes(), wand.successes(), wand.failures()};
        long hash = 4025;
        for (long value : first) {
            hash = 31 * hash + value;
        }
        for (int k = 0; k < wand.elements(); k++) {
            hash = 31 * hash + wand.width(k);
            hash = 31 * hash + smudges[k];
            hash = 31 * hash + wand.greatestSmudge(k);
        }
        for (int k = 0; k < wand.times(); k++) {
            hash = 31 * hash + wand.time(k);
        }
        for (int k = 0; k < wand.codes(); k++) {
            hash = 31 * hash + wand.code(k);
            hash = 31 * hash + wand.codeLength(k);
            hash = 31 * hash + wand.count(k);
        }
        return hash;
    }

    private static void testDigest() {
        int[] smudges = new int[41];
        BarcodeWand wand = new BarcodeWand();
        DUE.is("digest of a new object", wand.digest(), hashOf(wand, smudges));
        BarcodeWand used = usedWand();
        smudges[4] = 2;
        DUE.is("digest of a used object", used.digest(), hashOf(used, smudges));
        used.smudge(12, -9);
        smudges[12] = -9;
        used.draw(1, 50, false);
        DUE.is("a failure for the digest", used.failures(), 1);
        DUE.is("digest of a smudged label", used.digest(), hashOf(used, smudges));
        long digest = used.digest();
        DUE.is("digest changes nothing", used.digest(), digest);
        Due.type(used, "p1");
        DUE.is("digest without the buffer", used.digest(), digest);
    }
}
