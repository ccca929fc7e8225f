/** Promises 7 to 13. */
public final class MeasurementTest {
    private static final Due DUE = new Due();

    private MeasurementTest() {
    }

    public static void main(String[] args) {
        testDrawnTimes();
        testDrawnSmudges();
        testDrawReadsAndCounts();
        testDrawsWrongInputs();
        testMeasure();
        testClearMeasurement();
        testRead();
        testTime();
        testSetTolerance();
        DUE.end();
    }

    private static void testDrawnTimes() {
        BarcodeWand wand = new BarcodeWand();
        wand.print(5, 1);
        int[] widths = {1, 1, 1, 1, 2, 3, 1, 1, 2, 3, 1, 1, 2};
        int[][] periods = {{1, 1}, {50, 50}, {1, 50}, {50, 1}, {10, 30}, {7, 3}};
        for (int[] pair : periods) {
            wand.draw(pair[0], pair[1], false);
            int[] forwards = new int[13];
            for (int k = 0; k < 13; k++) {
                forwards[k] = 10 * widths[k] * (pair[0] * (12 - k) + pair[1] * k) / 120;
                DUE.is("time " + k + " forwards", wand.time(k), forwards[k]);
            }
            wand.draw(pair[0], pair[1], true);
            DUE.is("times backwards", wand.times(), 13);
            for (int k = 0; k < 13; k++) {
                DUE.is("time " + k + " backwards", wand.time(k), forwards[12 - k]);
            }
        }
    }

    private static void testDrawnSmudges() {
        BarcodeWand wand = new BarcodeWand();
        wand.print(5, 1);
        wand.smudge(0, -9);
        wand.smudge(5, 9);
        wand.smudge(12, -9);
        wand.draw(1, 1, false);
        DUE.is("a time of less than 1", wand.time(0), 1);
        DUE.is("39 tenths", wand.time(5), 3);
        DUE.is("11 tenths", wand.time(12), 1);
        wand.draw(50, 50, false);
        DUE.is("1 tenth of 50", wand.time(0), 5);
        DUE.is("39 tenths of 50", wand.time(5), 195);
        DUE.is("11 tenths of 50", wand.time(12), 55);
    }

    private static void testDrawReadsAndCounts() {
        BarcodeWand wand = new BarcodeWand();
        wand.print(5, 1);
        Due.measureAll(wand, 1, 2, 3);
        DUE.is("draw forwards", wand.draw(10, 10, false), 0);
        DUE.is("times after draw", wand.times(), 13);
        DUE.is("draw backwards", wand.draw(10, 10, true), -1);
        DUE.is("draw too fast a change", wand.draw(1, 50, false), 2);
        DUE.is("successes", wand.successes(), 2);
        DUE.is("failures", wand.failures(), 1);
        DUE.is("codes", wand.codes(), 1);
        DUE.is("count", wand.count(0), 2);
        DUE.is("saved", wand.savedStates(), 6);
        wand.undo();
        DUE.is("failures after undo", wand.failures(), 0);
        DUE.is("times after undo", wand.time(0), 20);
    }

    private static void testDrawsWrongInputs() {
        BarcodeWand wand = new BarcodeWand();
        DUE.isIllegalState("draw without a label", () -> wand.draw(1, 50, false));
        DUE.isIllegalArgument("wrong draw without a label", () -> wand.draw(0, 50, false));
        wand.print(5, 1);
        int[] wrong = {0, -1, 51, Integer.MIN_VALUE, Integer.MAX_VALUE};
        for (int period : wrong) {
            DUE.isIllegalArgument("draw(" + period + ", 1)", () -> wand.draw(period, 1, false));
            DUE.isIllegalArgument("draw(1, " + period + ")", () -> wand.draw(1, period, true));
        }
        DUE.is("times after wrong draws", wand.times(), 0);
        DUE.is("saved after wrong draws", wand.savedStates(), 1);
    }

    private static void testMeasure() {
        BarcodeWand wand = new BarcodeWand();
        int[] wrong = {0, -1, 10000, Integer.MIN_VALUE, Integer.MAX_VALUE};
        for (int time : wrong) {
            DUE.isIllegalArgument("measure(" + time + ")", () -> wand.measure(time));
        }
        DUE.is("saved after wrong measures", wand.savedStates(), 0);
        DUE.is("measure(1)", wand.measure(1), 1);
        DUE.is("measure(9999)", wand.measure(9999), 2);
        DUE.is("saved after measures", wand.savedStates(), 2);
        for (int k = 2; k < 41; k++) {
            DUE.is("measure number " + k, wand.measure(100 + k), k + 1);
        }
        DUE.isIllegalState("a 42nd time", () -> wand.measure(5));
        DUE.isIllegalArgument("a wrong 42nd time", () -> wand.measure(0));
        DUE.is("times", wand.times(), 41);
        DUE.is("the first time", wand.time(0), 1);
        DUE.is("the second time", wand.time(1), 9999);
        DUE.is("the last time", wand.time(40), 140);
        DUE.is("readings by measure", wand.successes() + wand.failures(), 0);
    }

    private static void testClearMeasurement() {
        BarcodeWand wand = new BarcodeWand();
        DUE.is("clear of nothing", wand.clearMeasurement(), 0);
        DUE.is("saved by clear of nothing", wand.savedStates(), 1);
        Due.measureAll(wand, 5, 6, 7);
        DUE.is("clear of three", wand.clearMeasurement(), 3);
        DUE.is("times after clear", wand.times(), 0);
        wand.undo();
        DUE.is("times after undo of clear", wand.times(), 3);
        DUE.is("time after undo of clear", wand.time(2), 7);
        for (int k = 3; k < 41; k++) {
            wand.measure(8);
        }
        DUE.is("clear of all 41", wand.clearMeasurement(), 41);
        DUE.is("clear again", wand.clearMeasurement(), 0);
        wand.undo();
        wand.undo();
        DUE.is("times after two undos", wand.times(), 41);
    }

    private static void testRead() {
        BarcodeWand wand = new BarcodeWand();
        DUE.is("read of nothing", wand.read(), 1);
        DUE.is("failures", wand.failures(), 1);
        DUE.is("saved by read of nothing", wand.savedStates(), 1);
        Due.measureAll(wand, 10, 10, 10, 30, 20, 10, 10, 30, 20, 10, 10, 10, 20);
        DUE.is("read", wand.read(), 0);
        DUE.is("read again", wand.read(), 0);
        DUE.is("successes", wand.successes(), 2);
        DUE.is("failures still", wand.failures(), 1);
        DUE.is("codes", wand.codes(), 1);
        DUE.is("count", wand.count(0), 2);
        DUE.is("times stay", wand.times(), 13);
        Due.remeasure(wand, 20, 10, 10, 10, 20, 30, 10, 10, 20, 30, 10, 10, 10);
        DUE.is("read of the reverse", wand.read(), -1);
        DUE.is("count of three", wand.count(0), 3);
        wand.undo();
        DUE.is("count after undo", wand.count(0), 2);
        DUE.is("successes after undo", wand.successes(), 2);
    }

    private static void testTime() {
        BarcodeWand wand = new BarcodeWand();
        Due.measureAll(wand, 5, 6);
        DUE.is("time(0)", wand.time(0), 5);
        DUE.is("time(1)", wand.time(1), 6);
        int[] wrong = {-1, 2, 41, Integer.MIN_VALUE, Integer.MAX_VALUE};
        for (int index : wrong) {
            DUE.isOutOfBounds("time(" + index + ")", () -> wand.time(index));
        }
        wand.clearMeasurement();
        DUE.isOutOfBounds("time(0) after clear", () -> wand.time(0));
    }

    private static void testSetTolerance() {
        BarcodeWand wand = new BarcodeWand();
        DUE.is("the first tolerance", wand.setTolerance(1), 4);
        DUE.is("the second tolerance", wand.setTolerance(8), 1);
        DUE.is("saved by setTolerance", wand.savedStates(), 2);
        int[] wrong = {0, -1, 9, Integer.MIN_VALUE, Integer.MAX_VALUE};
        for (int tolerance : wrong) {
            DUE.isIllegalArgument("setTolerance(" + tolerance + ")", () -> wand.setTolerance(tolerance));
        }
        DUE.is("saved by wrong tolerances", wand.savedStates(), 2);
        wand.undo();
        DUE.is("the tolerance after undo", wand.setTolerance(5), 1);
    }
}
