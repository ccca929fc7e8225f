/** Promises 14 to 17, and the steps of reading. */
public final class ReadingTest {
    private static final Due DUE = new Due();

    private ReadingTest() {
    }

    public static void main(String[] args) {
        testLengths();
        testLeftGuard();
        testDigitTolerance();
        testTiedDigits();
        testRightGuard();
        testCheckDigit();
        testOrderOfReasons();
        testGreatestReason();
        testForwardsBeforeBackwards();
        testDigit();
        testLastDigits();
        testNearest();
        testNearestToTheLastTimes();
        testNothingIsCounted();
        DUE.end();
    }

    /** The label 00, with one of its times changed. */
    private static int[] zeros(int index, int time) {
        int[] times = {10, 10, 10, 30, 20, 10, 10, 30, 20, 10, 10, 10, 20};
        times[index] = time;
        return times;
    }

    private static void dueReason(String what, int want, int... times) {
        BarcodeWand wand = new BarcodeWand();
        Due.measureAll(wand, times);
        DUE.is(what + ": reason forwards", wand.reason(false), want);
        int[] reverse = new int[times.length];
        for (int k = 0; k < times.length; k++) {
            reverse[k] = times[times.length - 1 - k];
        }
        Due.remeasure(wand, reverse);
        DUE.is(what + ": reason of the reverse", wand.reason(true), want);
    }

    private static void testLengths() {
        for (int length = 0; length <= 41; length++) {
            BarcodeWand wand = new BarcodeWand();
            for (int k = 0; k < length; k++) {
                wand.measure(10);
            }
            boolean isLabel = length >= 13 && (length - 5) % 4 == 0;
            DUE.is("reason of " + length + " times", wand.reason(false), isLabel ? 3 : 1);
            DUE.is("result of " + length + " times", wand.result(), isLabel ? 3 : 1);
        }
    }

    private static void testLeftGuard() {
        for (int k = 0; k < 3; k++) {
            dueReason("guard 14", 0, zeros(k, 14));
            dueReason("guard 15", 2, zeros(k, 15));
            dueReason("guard 7", 0, zeros(k, 7));
            dueReason("guard 6", 2, zeros(k, 6));
        }
        dueReason("guard 8, 10, 12", 2, 8, 10, 12, 30, 20, 10, 10, 30, 20, 10, 10, 10, 20);
        dueReason("guard 9, 12, 13", 0, 9, 12, 13, 30, 20, 10, 10, 30, 20, 10, 10, 10, 20);
    }

    private static void testDigitTolerance() {
        // the distance is 70, S is 70: right from the tolerance 4 on
        BarcodeWand wand = new BarcodeWand();
        Due.measureAll(wand, 10, 10, 10, 25, 25, 10, 10, 30, 20, 10, 10, 10, 20);
        DUE.is("at the tolerance 4", wand.result(), 0);
        wand.setTolerance(3);
        DUE.is("at the tolerance 3", wand.result(), 3);
        wand.setTolerance(8);
        DUE.is("at the tolerance 8", wand.result(), 0);
        // the distance is 84 and S is 70: right from the tolerance 5 on
        Due.remeasure(wand, 10, 10, 10, 24, 26, 10, 10, 30, 20, 10, 10, 10, 20);
        wand.setTolerance(4);
        DUE.is("distance 84 at the tolerance 4", wand.result(), 3);
        wand.setTolerance(5);
        DUE.is("distance 84 at the tolerance 5", wand.result(), 0);
        // no tolerance helps where S is small and nothing is near
        Due.remeasure(wand, 10, 10, 10, 1, 9999, 1, 9999, 30, 20, 10, 10, 10, 20);
        wand.setTolerance(8);
        DUE.is("nothing near", wand.result(), 3);
    }

    private static void testTiedDigits() {
        // as far from 1 (2 2 2 1) as from 2 (2 1 2 2)
        BarcodeWand wand = new BarcodeWand();
        Due.measureAll(wand, 10, 10, 10, 20, 15, 20, 15, 30, 20, 10, 10, 10, 20);
        wand.setTolerance(8);
        DUE.is("tied digits", wand.result(), 3);
        DUE.is("nearest of tied digits", wand.nearest(3), 1);
        Due.remeasure(wand, 10, 10, 10, 20, 16, 20, 14, 20, 10, 30, 10, 10, 20);
        DUE.is("no longer tied", wand.nearest(3), 1);
        Due.remeasure(wand, 10, 10, 10, 20, 14, 20, 16, 20, 10, 30, 10, 10, 20);
        DUE.is("no longer tied, the other way", wand.nearest(3), 2);
    }

    private static void testRightGuard() {
        dueReason("bar 15", 4, zeros(12, 15));
        dueReason("bar 16", 0, zeros(12, 16));
        dueReason("bar 29", 0, zeros(12, 29));
        dueReason("bar 30", 4, zeros(12, 30));
        dueReason("space 13", 0, zeros(11, 13));
        dueReason("space 14", 4, zeros(11, 14));
        dueReason("space 7", 0, zeros(11, 7));
        dueReason("space 6", 4, zeros(11, 6));
    }

    private static void testCheckDigit() {
        dueReason("01", 5, 10, 10, 10, 30, 20, 10, 10, 20, 20, 20, 10, 10, 20);
        dueReason("17", 0, 10, 10, 10, 20, 20, 20, 10, 10, 30, 10, 20, 10, 20);
        dueReason("71", 5, 10, 10, 10, 10, 30, 10, 20, 20, 20, 20, 10, 10, 20);
    }

    private static void testOrderOfReasons() {
        dueReason("left guard before digit", 2, 10, 10, 30, 10, 10, 10, 10, 30, 20, 10, 10, 10, 10);
        dueReason("digit before right guard", 3, 10, 10, 10, 30, 20, 10, 10, 10, 10, 10, 10, 10, 10);
        dueReason("right guard before check digit", 4, 10, 10, 10, 30, 20, 10, 10, 20, 20, 20, 10, 10, 10);
    }

    private static void testGreatestReason() {
        BarcodeWand wand = new BarcodeWand();
        Due.measureAll(wand, 10, 10, 30, 30, 20, 10, 10, 30, 20, 10, 12, 12, 12);
        DUE.is("forwards 2", wand.reason(false), 2);
        DUE.is("backwards 3", wand.reason(true), 3);
        DUE.is("the greater one is backwards", wand.result(), 3);
        Due.remeasure(wand, zeros(12, 30));
        DUE.is("forwards 4", wand.reason(false), 4);
        DUE.is("backwards 2", wand.reason(true), 2);
        DUE.is("the greater one is forwards", wand.result(), 4);
    }

    private static void testForwardsBeforeBackwards() {
        for (int digits = 0; digits < 10; digits++) {
            BarcodeWand wand = new BarcodeWand();
            wand.print(digits, 1);
            wand.draw(20, 20, false);
            DUE.is("result of a drawing forwards", wand.result(), 0);
            DUE.is("its reason forwards", wand.reason(false), 0);
            DUE.isTrue("its reason backwards", wand.reason(true) != 0);
            wand.draw(20, 20, true);
            DUE.is("result of a drawing backwards", wand.result(), -1);
            DUE.is("its reason backwards", wand.reason(true), 0);
            DUE.isTrue("its reason forwards", wand.reason(false) != 0);
        }
    }

    private static void testDigit() {
        BarcodeWand wand = new BarcodeWand();
        DUE.is("digit of nothing", wand.digit(0), -1);
        wand.print(1203, 6);
        int[] digits = {0, 0, 1, 2, 0, 3, 4, -1, -1};
        boolean[] directions = {false, true};
        for (boolean isBackwards : directions) {
            wand.draw(20, 22, isBackwards);
            for (int k = 0; k < digits.length; k++) {
                DUE.is("digit(" + k + ")", wand.digit(k), digits[k]);
            }
        }
        wand.print(12345678, 8);
        wand.draw(20, 20, true);
        DUE.is("digit(8)", wand.digit(8), wand.labelDigit(8));
        wand.smudge(0, 9);
        wand.draw(20, 20, false);
        DUE.is("digit where the reading fails", wand.digit(0), -1);
        int[] wrong = {-1, 9, Integer.MIN_VALUE, Integer.MAX_VALUE};
        for (int digit : wrong) {
            DUE.isOutOfBounds("digit(" + digit + ")", () -> wand.digit(digit));
        }
    }

    private static void testNearest() {
        BarcodeWand wand = new BarcodeWand();
        DUE.isOutOfBounds("nearest(0) of nothing", () -> wand.nearest(0));
        Due.measureAll(wand, 30, 11, 10);
        DUE.isOutOfBounds("nearest(0) of three", () -> wand.nearest(0));
        wand.measure(19);
        DUE.is("nearest(0)", wand.nearest(0), 9);
        DUE.isOutOfBounds("nearest(1) of four", () -> wand.nearest(1));
        DUE.isOutOfBounds("nearest(-1)", () -> wand.nearest(-1));
        DUE.isOutOfBounds("nearest(greatest int)", () -> wand.nearest(Integer.MAX_VALUE));
        DUE.isOutOfBounds("nearest(least int)", () -> wand.nearest(Integer.MIN_VALUE));
        Due.measureAll(wand, 10, 10, 40);
        // 19 10 10 40
        DUE.is("nearest(3)", wand.nearest(3), 6);
        Due.remeasure(wand, 9999, 9999, 9999, 9999);
        // the distances of 0 to 9 are 7 * 9999 * the sums of |1 - 4 * width / 7|
        DUE.is("nearest of equal times", wand.nearest(0), 1);
        Due.remeasure(wand, 9999, 1, 1, 1);
        DUE.is("nearest of 9999 1 1 1", wand.nearest(0), 0);
        Due.remeasure(wand, 1, 1, 1, 9999);
        DUE.is("nearest of 1 1 1 9999", wand.nearest(0), 6);
    }

    // "NONE if the reading fails, or the code has no such digit", "if digit is not 0 to 8"
    private static void testLastDigits() {
        BarcodeWand wand = new BarcodeWand();
        for (int count = 1; count <= 8; count++) {
            int check = wand.print(7, count);
            wand.draw(20, 20, count % 2 == 0);
            DUE.is("the first digit of " + (count + 1), wand.digit(0), count == 1 ? 7 : 0);
            DUE.is("the last digit of " + (count + 1), wand.digit(count), check);
            for (int digit = count + 1; digit <= 8; digit++) {
                DUE.is("no such digit of " + (count + 1), wand.digit(digit), BarcodeWand.NONE);
            }
            DUE.isOutOfBounds("digit(9)", () -> wand.digit(9));
        }
        wand.clearMeasurement();
        for (int digit = 0; digit <= 8; digit++) {
            DUE.is("no digit of no times", wand.digit(digit), BarcodeWand.NONE);
        }
        DUE.isOutOfBounds("digit(9) of no times", () -> wand.digit(9));
        DUE.isOutOfBounds("digit(-1) of no times", () -> wand.digit(-1));
    }

    // "if index is negative, or the measurement has no time with the index (index + 3)"
    private static void testNearestToTheLastTimes() {
        BarcodeWand wand = new BarcodeWand();
        int[] four = {30, 10, 10, 20};
        // the digits nearest to these four from the first one on, from the second one on, and so on
        int[] nearest = {9, 2, 5, 0};
        for (int size = 0; size <= 41; size++) {
            int beyond = Math.max(0, size - 3);
            DUE.isOutOfBounds("nearest(" + beyond + ") of " + size, () -> wand.nearest(beyond));
            DUE.isOutOfBounds("nearest(-1) of " + size, () -> wand.nearest(-1));
            // Greater by 3 this index would be negative.
            DUE.isOutOfBounds("nearest of a wrap-around", () -> wand.nearest(Integer.MAX_VALUE - 2));
            if (size >= 4) {
                int last = size - 4;
                DUE.is("nearest(" + last + ") of " + size, wand.nearest(last), nearest[last % 4]);
                DUE.is("nearest(0) of " + size, wand.nearest(0), 9);
            }
            if (size < 41) {
                wand.measure(four[size % 4]);
            }
        }
    }

    private static void testNothingIsCounted() {
        BarcodeWand wand = new BarcodeWand();
        wand.print(5, 1);
        wand.draw(10, 10, false);
        wand.result();
        wand.reason(true);
        wand.digit(0);
        wand.nearest(0);
        wand.leastTolerance();
        wand.greatestSmudge(0);
        wand.ifDrawn(1, 50, false);
        wand.digest();
        DUE.is("successes", wand.successes(), 1);
        DUE.is("failures", wand.failures(), 0);
        DUE.is("count", wand.count(0), 1);
        DUE.is("saved", wand.savedStates(), 2);
        DUE.is("time", wand.time(0), 10);
    }
}
