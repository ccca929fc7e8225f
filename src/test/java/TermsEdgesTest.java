import java.util.Arrays;

/** The edges that the document's "Terms" name; above each test stands the sentence that it is about. */
public final class TermsEdgesTest {
    private static final Due DUE = new Due();
    /** The check digits behind the single digits 0 to 9. */
    private static final int[] CHECKS = {0, 7, 4, 1, 8, 5, 2, 9, 6, 3};
    private static final int[][] WIDTHS = {
        {3, 2, 1, 1}, {2, 2, 2, 1}, {2, 1, 2, 2}, {1, 4, 1, 1}, {1, 1, 3, 2},
        {1, 2, 3, 1}, {1, 1, 1, 4}, {1, 3, 1, 2}, {1, 2, 1, 3}, {3, 1, 1, 2},
    };

    private TermsEdgesTest() {
    }

    public static void main(String[] args) {
        testFewestAndMostDigits();
        testCheckDigitOfEachRest();
        testWeightsOfThePlaces();
        testFirstAndLastElements();
        testNoLabelAtFirst();
        testSmudgesOfAllElements();
        testPeriodsAtTheEnds();
        testTimesOfAtLeastOne();
        testGreatestDrawnTime();
        testDrawingReplacesTimes();
        testMostTimes();
        testNumbersOfTimes();
        testLeftGuardOfLeastAndGreatestTimes();
        testToleranceReachedAndPassed();
        testTiesWithinTheTolerance();
        testDigitsOfGreatestTimes();
        testRightGuardOfLeastAndGreatestTimes();
        testEachWrongCheckDigit();
        testReasonsOfBothDirections();
        testCodesOfDifferentLengths();
        testEleventhCode();
        DUE.end();
    }

    private static int tenToThe(int exponent) {
        int power = 1;
        for (int k = 0; k < exponent; k++) {
            power *= 10;
        }
        return power;
    }

    /** The times of the label of these digits, drawn with the period 10; its smudges are 0. */
    private static int[] timesOf(int... digits) {
        int[] times = new int[4 * digits.length + 5];
        Arrays.fill(times, 10);
        for (int k = 0; k < digits.length; k++) {
            for (int place = 0; place < 4; place++) {
                times[3 + 4 * k + place] = 10 * WIDTHS[digits[k]][place];
            }
        }
        times[times.length - 1] = 20;
        return times;
    }

    /** Replaces some times of an array from an index on. */
    private static int[] with(int[] times, int from, int... others) {
        int[] changed = times.clone();
        System.arraycopy(others, 0, changed, from, others.length);
        return changed;
    }

    private static int[] reverseOf(int[] times) {
        int[] reverse = new int[times.length];
        for (int k = 0; k < times.length; k++) {
            reverse[k] = times[times.length - 1 - k];
        }
        return reverse;
    }

    private static BarcodeWand measured(int... times) {
        BarcodeWand wand = new BarcodeWand();
        Due.measureAll(wand, times);
        return wand;
    }

    /** The reason must be the same for the times forwards and for their reverse backwards. */
    private static void dueReason(String what, int want, int[] times) {
        DUE.is(what + ": reason forwards", measured(times).reason(false), want);
        DUE.is(what + ": reason of the reverse backwards", measured(reverseOf(times)).reason(true), want);
    }

    // "A label has 2 to 9 digits, numbered from 0; the last one is the check digit."
    private static void testFewestAndMostDigits() {
        for (int count = 1; count <= 8; count++) {
            BarcodeWand wand = new BarcodeWand();
            int check = wand.print(tenToThe(count - 1), count);
            String label = "a label of " + (count + 1) + " digits: ";
            int last = count;
            DUE.is(label + "its first digit", wand.labelDigit(0), 1);
            DUE.is(label + "its last digit", wand.labelDigit(last), check);
            DUE.isOutOfBounds(label + "before the first digit", () -> wand.labelDigit(-1));
            DUE.isOutOfBounds(label + "behind the last digit", () -> wand.labelDigit(last + 1));
        }
    }

    // "The check digit is (10 - s % 10) % 10": 0, not 10, where s % 10 is 0.
    private static void testCheckDigitOfEachRest() {
        BarcodeWand wand = new BarcodeWand();
        for (int digit = 0; digit < 10; digit++) {
            DUE.is("check digit of " + digit, wand.print(digit, 1), CHECKS[digit]);
            DUE.is("check digit on the label of " + digit, wand.labelDigit(1), CHECKS[digit]);
        }
        // s is 10: 2 * 3 and 4
        DUE.is("check digit of 42", wand.print(42, 2), 0);
        // s is 9 and 11
        DUE.is("check digit of 32", wand.print(32, 2), 1);
        DUE.is("check digit of 52", wand.print(52, 2), 9);
        // the greatest s is 144
        DUE.is("check digit of 99999999", wand.print(99999999, 8), 6);
        DUE.is("check digit of 00000000", wand.print(0, 8), 0);
    }

    // "the last one before the check digit, and then every other one to the left, is multiplied by 3"
    private static void testWeightsOfThePlaces() {
        BarcodeWand wand = new BarcodeWand();
        for (int count = 1; count <= 8; count++) {
            for (int place = 0; place < count; place++) {
                int want = place % 2 == 0 ? 7 : 9;
                DUE.is("a 1 at the place " + place + " of " + count, wand.print(tenToThe(place), count), want);
            }
        }
    }

    // "element 0 is a bar, and so is the last one", "So a label with n digits has 4 * n + 5 elements."
    private static void testFirstAndLastElements() {
        for (int count = 1; count <= 8; count++) {
            BarcodeWand wand = new BarcodeWand();
            wand.print(3, count);
            int size = 4 * (count + 1) + 5;
            DUE.is("elements of " + (count + 1) + " digits", wand.elements(), size);
            DUE.is("width of the first element", wand.width(0), 1);
            DUE.is("width of the guard's space", wand.width(size - 2), 1);
            DUE.is("width of the last element", wand.width(size - 1), 2);
            // the last digit before the check digit is 3, the check digit 1
            for (int k = 0; k < 4; k++) {
                DUE.is("width " + k + " of the last digit", wand.width(size - 10 + k), WIDTHS[3][k]);
                DUE.is("width " + k + " of the check digit", wand.width(size - 6 + k), WIDTHS[1][k]);
            }
            DUE.isOutOfBounds("width before the first element", () -> wand.width(-1));
            DUE.isOutOfBounds("width behind the last element", () -> wand.width(size));
        }
    }

    // "At first there is no label."
    private static void testNoLabelAtFirst() {
        BarcodeWand wand = new BarcodeWand();
        DUE.is("elements of no label", wand.elements(), 0);
        DUE.isOutOfBounds("width(0) of no label", () -> wand.width(0));
        DUE.isOutOfBounds("labelDigit(0) of no label", () -> wand.labelDigit(0));
        DUE.isIllegalState("draw of no label", () -> wand.draw(1, 1, false));
    }

    // "Each element of the label has a smudge from -9 to 9, at first 0"
    private static void testSmudgesOfAllElements() {
        int[] edges = {-9, 9};
        for (int edge : edges) {
            BarcodeWand wand = new BarcodeWand();
            wand.print(12345678, 8);
            for (int element = 0; element < 41; element++) {
                DUE.is("first smudge of " + element, wand.smudge(element, edge), 0);
            }
            for (int element = 0; element < 41; element++) {
                DUE.is("smudge of " + element, wand.smudge(element, edge), edge);
                int kept = element;
                DUE.isIllegalArgument("smudge beyond", () -> wand.smudge(kept, edge + edge / 9));
            }
            wand.print(12345678, 8);
            DUE.is("smudge on the new label", wand.smudge(0, 0) + wand.smudge(40, 0), 0);
        }
    }

    // "two periods from 1 to 50, one for the left end and one for the right end"
    private static void testPeriodsAtTheEnds() {
        BarcodeWand wand = new BarcodeWand();
        for (int count = 1; count <= 8; count++) {
            wand.print(0, count);
            int last = 4 * (count + 1) + 4;
            wand.draw(1, 50, false);
            DUE.is("left end, 1 to 50", wand.time(0), 1);
            DUE.is("right end, 1 to 50", wand.time(last), 100);
            wand.draw(1, 50, true);
            DUE.is("right end first, 1 to 50", wand.time(0), 100);
            DUE.is("left end last, 1 to 50", wand.time(last), 1);
            wand.draw(50, 1, false);
            DUE.is("left end, 50 to 1", wand.time(0), 50);
            DUE.is("right end, 50 to 1", wand.time(last), 2);
            wand.draw(50, 1, true);
            DUE.is("right end first, 50 to 1", wand.time(0), 2);
            DUE.is("left end last, 50 to 1", wand.time(last), 50);
        }
    }

    // "but at least 1", "divisions of positive numbers are rounded down"
    private static void testTimesOfAtLeastOne() {
        BarcodeWand wand = new BarcodeWand();
        wand.print(5, 1);
        int[] smudges = {-9, -1, 0, 9};
        for (int smudge : smudges) {
            wand.smudge(0, smudge);
            wand.draw(1, 1, false);
            // 1, 9, 10 and 19 tenths
            DUE.is("time of the smudge " + smudge, wand.time(0), 1);
        }
        wand.smudge(0, -9);
        wand.draw(9, 9, false);
        DUE.is("9 tenths", wand.time(0), 1);
        wand.draw(10, 10, false);
        DUE.is("10 tenths", wand.time(0), 1);
        wand.draw(19, 19, false);
        DUE.is("19 tenths", wand.time(0), 1);
        wand.draw(20, 20, false);
        DUE.is("20 tenths", wand.time(0), 2);
        wand.draw(1, 1, true);
        DUE.is("at least 1 at the end of a drawing backwards", wand.time(12), 1);
    }

    // the greatest width, smudge and period: (10 * 4 + 9) * 50 / 10
    private static void testGreatestDrawnTime() {
        BarcodeWand wand = new BarcodeWand();
        wand.print(33333333, 8);
        wand.smudge(4, 9);
        wand.smudge(32, 9);
        wand.smudge(40, 9);
        wand.draw(50, 50, false);
        DUE.is("the widest element at the left", wand.time(4), 245);
        DUE.is("the widest element at the right", wand.time(32), 245);
        DUE.is("the last element", wand.time(40), 145);
        wand.draw(50, 1, false);
        // 49 * (50 * 36 + 4) / 400
        DUE.is("the widest element where the speed changes", wand.time(4), 220);
        // 49 * (50 * 8 + 32) / 400
        DUE.is("the widest element near the other end", wand.time(32), 52);
    }

    // "It takes the place of the measurement before."
    private static void testDrawingReplacesTimes() {
        BarcodeWand wand = new BarcodeWand();
        wand.print(0, 8);
        wand.draw(10, 10, false);
        DUE.is("41 times in place of none", wand.times(), 41);
        wand.print(0, 1);
        wand.draw(10, 10, false);
        DUE.is("13 times in place of 41", wand.times(), 13);
        DUE.isOutOfBounds("the time behind the last one", () -> wand.time(13));
        wand.print(0, 8);
        wand.draw(11, 11, true);
        DUE.is("41 times in place of 13", wand.times(), 41);
        DUE.is("the first one of them", wand.time(0), 22);
        DUE.is("the last one of them", wand.time(40), 11);
        wand.clearMeasurement();
        for (int k = 0; k < 41; k++) {
            wand.measure(7);
        }
        wand.draw(10, 10, false);
        DUE.is("41 times in place of 41 by hand", wand.times(), 41);
        DUE.is("drawn, not measured", wand.time(0), 10);
    }

    // "a measurement contains at most 41 times"
    private static void testMostTimes() {
        BarcodeWand wand = new BarcodeWand();
        wand.print(0, 8);
        wand.draw(10, 10, false);
        DUE.isIllegalState("a time behind 41 drawn ones", () -> wand.measure(1));
        wand.print(0, 7);
        wand.draw(10, 10, false);
        for (int size = 38; size <= 41; size++) {
            DUE.is("a time behind 37 drawn ones", wand.measure(size), size);
        }
        DUE.isIllegalState("a fifth time behind 37 drawn ones", () -> wand.measure(1));
        DUE.is("the last time", wand.time(40), 41);
        wand.clearMeasurement();
        DUE.is("the first time after all were removed", wand.measure(9999), 1);
    }

    // "If the number of times is not 4 * n + 5 with n from 2 to 9, the reading fails with the reason 1."
    private static void testNumbersOfTimes() {
        for (int size = 0; size <= 41; size++) {
            BarcodeWand wand = new BarcodeWand();
            for (int k = 0; k < size; k++) {
                wand.measure(k % 3 == 0 ? 1 : 9999);
            }
            boolean isLabel = size == 13 || size == 17 || size == 21 || size == 25 || size == 29 || size == 33
                || size == 37 || size == 41;
            DUE.is("reason forwards of " + size, wand.reason(false), isLabel ? 2 : 1);
            DUE.is("reason backwards of " + size, wand.reason(true), isLabel ? 2 : 1);
            DUE.is("result of " + size, wand.result(), isLabel ? 2 : 1);
        }
        // a whole label with one time more or less
        BarcodeWand wand = measured(timesOf(5, 5));
        wand.measure(10);
        DUE.is("a time too many", wand.reason(false), 1);
        wand.undo();
        DUE.is("all times", wand.reason(false), 0);
        dueReason("a time too few", 1, Arrays.copyOf(timesOf(5, 5), 12));
    }

    // "2 times the greatest of its three times is less than 3 times the least one"
    private static void testLeftGuardOfLeastAndGreatestTimes() {
        int[][] right = {{1, 1, 1}, {3, 4, 4}, {4, 3, 4}, {4, 4, 3}, {9999, 9999, 9999}, {6667, 9999, 9999},
            {9999, 6667, 9999}, {9999, 9999, 6667}, {6667, 6667, 9999}};
        int[][] wrong = {{1, 1, 2}, {2, 1, 1}, {2, 3, 2}, {3, 2, 3}, {3, 3, 2}, {9999, 9999, 6666},
            {6666, 9999, 9999}, {9999, 6666, 6666}, {1, 9999, 1}, {9999, 1, 9999}};
        for (int[] guard : right) {
            dueReason("left guard " + Arrays.toString(guard), 0, with(timesOf(5, 5), 0, guard));
        }
        for (int[] guard : wrong) {
            dueReason("left guard " + Arrays.toString(guard), 2, with(timesOf(5, 5), 0, guard));
        }
    }

    // "4 times the least distance is greater than S times the tolerance", "The tolerance is 1 to 8, at first 4."
    private static void testToleranceReachedAndPassed() {
        // 4 times the least distance is S times the tolerance: the first four times have the tolerance 1
        int[][] reached = {{70, 80, 240, 170}, {60, 80, 240, 180}, {50, 80, 240, 190}, {30, 60, 60, 270},
            {30, 80, 240, 210}, {20, 80, 240, 220}, {10, 80, 240, 230}, {10, 40, 50, 250}};
        // greater by as little as these sums let it
        int[][] passed = {{69, 81, 240, 170}, {59, 81, 240, 180}, {49, 81, 240, 190}, {29, 61, 60, 270},
            {29, 81, 240, 210}, {19, 81, 240, 220}, {9, 81, 240, 230}, {9, 40, 51, 250}};
        for (int tolerance = 1; tolerance <= 8; tolerance++) {
            int digit = tolerance == 4 || tolerance == 8 ? 6 : 4;
            int[] label = timesOf(digit, CHECKS[digit]);
            BarcodeWand wand = measured(with(label, 3, reached[tolerance - 1]));
            int first = wand.setTolerance(tolerance);
            DUE.is("the tolerance at first", first, 4);
            DUE.is("the tolerance " + tolerance + " is reached", wand.reason(false), 0);
            DUE.is("its digit", wand.digit(0), digit);
            DUE.is("its least tolerance", wand.leastTolerance(), tolerance);
            Due.remeasure(wand, with(label, 3, passed[tolerance - 1]));
            DUE.is("the tolerance " + tolerance + " is passed", wand.reason(false), 3);
            DUE.is("no digit", wand.digit(0), BarcodeWand.NONE);
            DUE.is("the next tolerance", wand.leastTolerance(), tolerance == 8 ? BarcodeWand.NONE : tolerance + 1);
            DUE.is("the digit is the nearest all the same", wand.nearest(3), digit);
        }
        // the same at the check digit, the last one that is read
        BarcodeWand wand = measured(with(timesOf(2, 4), 7, 30, 80, 240, 210));
        wand.setTolerance(4);
        DUE.is("the check digit, too far", wand.reason(false), 3);
        wand.setTolerance(5);
        DUE.is("the check digit, reached", wand.reason(false), 0);
    }

    // "if several digits have the least distance", also if it is within the tolerance
    private static void testTiesWithinTheTolerance() {
        int[][] tied = {{2, 3, 2, 7}, {2, 3, 6, 3}, {2, 5, 2, 5}, {3, 2, 5, 4}, {1, 2, 2, 2}, {2, 2, 1, 2},
            {3, 6, 6, 6}};
        int[] nearest = {6, 4, 7, 2, 1, 0, 1};
        for (int k = 0; k < tied.length; k++) {
            BarcodeWand wand = measured(with(timesOf(nearest[k], CHECKS[nearest[k]]), 3, tied[k]));
            DUE.is("the least one of the tied digits " + k, wand.nearest(3), nearest[k]);
            for (int tolerance = 1; tolerance <= 8; tolerance++) {
                wand.setTolerance(tolerance);
                DUE.is("tied digits " + k + " at the tolerance " + tolerance, wand.reason(false), 3);
            }
            DUE.is("the least tolerance of tied digits " + k, wand.leastTolerance(), BarcodeWand.NONE);
        }
    }

    // the greatest times by hand: S is 39996, or one time is 9999 times another
    private static void testDigitsOfGreatestTimes() {
        // 3 2 1 1, 2 2 2 1 and so on, as wide as 9999 lets them be
        for (int digit = 0; digit < 10; digit++) {
            int[] four = new int[4];
            for (int place = 0; place < 4; place++) {
                four[place] = 2499 * WIDTHS[digit][place];
            }
            BarcodeWand wand = measured(with(timesOf(digit, CHECKS[digit]), 3, four));
            wand.setTolerance(1);
            DUE.is("the digit " + digit + " in great times", wand.reason(false), 0);
            DUE.is("read as it is", wand.digit(0), digit);
        }
        BarcodeWand wand = new BarcodeWand();
        for (int k = 0; k < 41; k++) {
            wand.measure(9999);
        }
        wand.setTolerance(8);
        DUE.is("41 greatest times forwards", wand.reason(false), 3);
        DUE.is("41 greatest times backwards", wand.reason(true), 3);
        DUE.is("nearest to the last ones of them", wand.nearest(37), 1);
        for (int k = 0; k < 3; k++) {
            int[] four = {1, 1, 1, 1};
            four[k] = 9999;
            Due.remeasure(wand, with(timesOf(5, 5), 3, four));
            DUE.is("one time is far too great", wand.reason(false), 3);
        }
    }

    // "2 * b is greater than 3 * a, and b is less than 3 * a"
    private static void testRightGuardOfLeastAndGreatestTimes() {
        int[][] right = {{1, 2}, {2, 4}, {2, 5}, {3, 5}, {3, 8}, {3334, 9999}, {6665, 9999}, {5000, 9999}};
        int[][] wrong = {{1, 1}, {1, 3}, {2, 3}, {2, 6}, {3, 4}, {3, 9}, {3333, 9999}, {6666, 9999}, {9999, 9999},
            {1, 9999}, {9999, 1}};
        for (int[] guard : right) {
            dueReason("right guard " + Arrays.toString(guard), 0, with(timesOf(5, 5), 11, guard));
        }
        for (int[] guard : wrong) {
            dueReason("right guard " + Arrays.toString(guard), 4, with(timesOf(5, 5), 11, guard));
        }
    }

    // "If the check digit is not right, the reading fails with the reason 5."
    private static void testEachWrongCheckDigit() {
        for (int digit = 0; digit < 10; digit++) {
            for (int check = 0; check < 10; check++) {
                int want = check == CHECKS[digit] ? 0 : 5;
                dueReason("the digits " + digit + check, want, timesOf(digit, check));
            }
        }
        dueReason("nine digits", 0, timesOf(9, 9, 9, 9, 9, 9, 9, 9, 6));
        dueReason("nine digits, the last one wrong", 5, timesOf(9, 9, 9, 9, 9, 9, 9, 9, 5));
        dueReason("nine digits, the first one wrong", 5, timesOf(8, 9, 9, 9, 9, 9, 9, 9, 6));
        dueReason("nine zeros", 0, timesOf(0, 0, 0, 0, 0, 0, 0, 0, 0));
    }

    // "the result is 0 forwards, -1 backwards", "If both fail, the result is the greater one of the two reasons."
    private static void testReasonsOfBothDirections() {
        int[] label = timesOf(5, 5);
        // The digits 55 between other ends are the digits 00 backwards.
        int[][] measurements = {label, reverseOf(label), with(label, 12, 10), with(label, 0, 20), new int[0],
            with(with(label, 0, 20), 12, 10), timesOf(0, 1), reverseOf(timesOf(0, 1)), with(label, 11, 20),
            with(with(timesOf(0, 0), 2, 30), 10, 12, 12, 12)};
        int[] forwards = {0, 2, 4, 2, 1, 2, 5, 2, 4, 2};
        int[] backwards = {2, 0, 4, 2, 1, 0, 2, 5, 2, 3};
        int[] results = {0, -1, 4, 2, 1, -1, 5, 5, 4, 3};
        for (int k = 0; k < measurements.length; k++) {
            BarcodeWand wand = measured(measurements[k]);
            DUE.is("reason forwards of measurement " + k, wand.reason(false), forwards[k]);
            DUE.is("reason backwards of measurement " + k, wand.reason(true), backwards[k]);
            DUE.is("result of measurement " + k, wand.result(), results[k]);
            DUE.is("read of measurement " + k, wand.read(), results[k]);
            DUE.is("successes of measurement " + k, wand.successes(), results[k] <= 0 ? 1 : 0);
            DUE.is("failures of measurement " + k, wand.failures(), results[k] <= 0 ? 0 : 1);
        }
    }

    // "so codes with different numbers of digits are different"
    private static void testCodesOfDifferentLengths() {
        BarcodeWand wand = new BarcodeWand();
        for (int count = 1; count <= 8; count++) {
            wand.print(5, count);
            wand.draw(10, 10, count % 2 == 0);
            DUE.is("codes with one more zero", wand.codes(), count);
            DUE.is("the same number", wand.code(count - 1), 55);
            DUE.is("another length", wand.codeLength(count - 1), count + 1);
        }
        wand.print(5, 1);
        wand.draw(10, 10, false);
        DUE.is("the first one again", wand.count(0), 2);
        DUE.is("no new code", wand.codes(), 8);
    }

    // "The list contains at most 10 codes; when an eleventh one is added, the first one is removed."
    private static void testEleventhCode() {
        BarcodeWand wand = new BarcodeWand();
        for (int count = 1; count <= 8; count++) {
            wand.print(0, count);
            wand.draw(10, 10, false);
        }
        wand.print(1, 1);
        wand.draw(10, 10, false);
        DUE.is("nine codes", wand.codes(), 9);
        wand.print(2, 2);
        wand.draw(10, 10, false);
        DUE.is("ten codes", wand.codes(), 10);
        wand.draw(10, 10, true);
        DUE.is("the tenth once more: none is removed", wand.codeLength(0), 2);
        DUE.is("counted twice", wand.count(9), 2);
        wand.print(3, 3);
        wand.draw(10, 10, false);
        DUE.is("ten codes still", wand.codes(), 10);
        int[] codes = {0, 0, 0, 0, 0, 0, 0, 17, 24, 31};
        int[] lengths = {3, 4, 5, 6, 7, 8, 9, 2, 3, 4};
        int[] counts = {1, 1, 1, 1, 1, 1, 1, 1, 2, 1};
        for (int k = 0; k < 10; k++) {
            DUE.is("code " + k, wand.code(k), codes[k]);
            DUE.is("length of code " + k, wand.codeLength(k), lengths[k]);
            DUE.is("count of code " + k, wand.count(k), counts[k]);
        }
        wand.undo();
        DUE.is("the first one is back", wand.codeLength(0), 2);
        for (int k = 1; k < 10; k++) {
            DUE.is("length of code " + k + " after undo", wand.codeLength(k), k < 8 ? k + 2 : k == 8 ? 2 : 3);
        }
        DUE.is("the last one after undo", wand.code(9), 24);
        DUE.is("its count after undo", wand.count(9), 2);
    }
}
