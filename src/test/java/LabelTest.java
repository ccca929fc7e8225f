/** Promises 1 to 6. */
public final class LabelTest {
    private static final Due DUE = new Due();

    private LabelTest() {
    }

    public static void main(String[] args) {
        testNewObject();
        testPrint();
        testPrintsWrongInputs();
        testPrintReplacesTheLabelOnly();
        testSmudge();
        testWidths();
        testLabelDigits();
        DUE.end();
    }

    private static void testNewObject() {
        BarcodeWand wand = new BarcodeWand();
        DUE.is("NONE", BarcodeWand.NONE, -1);
        DUE.is("new elements", wand.elements(), 0);
        DUE.is("new times", wand.times(), 0);
        DUE.is("new codes", wand.codes(), 0);
        DUE.is("new successes", wand.successes(), 0);
        DUE.is("new failures", wand.failures(), 0);
        DUE.is("new savedStates", wand.savedStates(), 0);
        DUE.is("new clearBuffer", wand.clearBuffer(), 0);
        DUE.is("new result", wand.result(), 1);
        DUE.is("new tolerance", wand.setTolerance(4), 4);
        DUE.isOutOfBounds("new width(0)", () -> wand.width(0));
        DUE.isOutOfBounds("new smudge(0, 0)", () -> wand.smudge(0, 0));
        DUE.isOutOfBounds("new labelDigit(0)", () -> wand.labelDigit(0));
        DUE.isOutOfBounds("new greatestSmudge(0)", () -> wand.greatestSmudge(0));
        DUE.isOutOfBounds("new time(0)", () -> wand.time(0));
        DUE.isOutOfBounds("new code(0)", () -> wand.code(0));
    }

    private static void testPrint() {
        BarcodeWand wand = new BarcodeWand();
        // 7*3 + 6*1 + 5*3 + 4 + 3*3 + 2 + 1*3 = 60
        DUE.is("print(1234567, 7)", wand.print(1234567, 7), 0);
        DUE.is("elements of 8 digits", wand.elements(), 37);
        DUE.is("print(0, 1)", wand.print(0, 1), 0);
        DUE.is("elements of 2 digits", wand.elements(), 13);
        DUE.is("print(9, 1)", wand.print(9, 1), 3);
        DUE.is("print(12, 2)", wand.print(12, 2), 3);
        DUE.is("print(12, 3)", wand.print(12, 3), 3);
        DUE.is("elements of 4 digits", wand.elements(), 21);
        DUE.is("print(120, 3)", wand.print(120, 3), 5);
        DUE.is("print(100, 3)", wand.print(100, 3), 7);
        DUE.is("print(10, 2)", wand.print(10, 2), 9);
        // 4*9*3 + 4*9 = 144
        DUE.is("print(99999999, 8)", wand.print(99999999, 8), 6);
        DUE.is("elements of 9 digits", wand.elements(), 41);
    }

    private static void testPrintsWrongInputs() {
        BarcodeWand wand = new BarcodeWand();
        int[][] wrong = {
            {0, 0}, {0, -1}, {0, 9}, {0, 10}, {0, Integer.MIN_VALUE}, {0, Integer.MAX_VALUE},
            {-1, 1}, {-1, 8}, {Integer.MIN_VALUE, 8}, {10, 1}, {100, 2}, {1000, 3}, {10000, 4},
            {100000, 5}, {1000000, 6}, {10000000, 7}, {100000000, 8}, {Integer.MAX_VALUE, 8}, {999999999, 9},
        };
        for (int[] pair : wrong) {
            DUE.isIllegalArgument("print(" + pair[0] + ", " + pair[1] + ")", () -> wand.print(pair[0], pair[1]));
        }
        DUE.is("elements after wrong prints", wand.elements(), 0);
        DUE.is("savedStates after wrong prints", wand.savedStates(), 0);
        int[][] greatest = {{9, 1}, {99, 2}, {999, 3}, {9999, 4}, {99999, 5}, {999999, 6}, {9999999, 7}};
        for (int[] pair : greatest) {
            wand.print(pair[0], pair[1]);
            DUE.is("elements of " + pair[0], wand.elements(), 4 * (pair[1] + 1) + 5);
        }
    }

    private static void testPrintReplacesTheLabelOnly() {
        BarcodeWand wand = new BarcodeWand();
        wand.print(5, 1);
        wand.smudge(3, 7);
        wand.draw(10, 10, false);
        wand.setTolerance(6);
        wand.print(5, 1);
        DUE.is("smudge after print", wand.smudge(3, 1), 0);
        DUE.is("times after print", wand.times(), 13);
        DUE.is("time after print", wand.time(3), 17);
        DUE.is("tolerance after print", wand.setTolerance(4), 6);
        DUE.is("successes after print", wand.successes() + wand.failures(), 1);
        wand.print(12345678, 8);
        wand.smudge(40, 9);
        wand.print(1, 1);
        wand.print(12345678, 8);
        DUE.is("smudge after two prints", wand.smudge(40, 0), 0);
    }

    private static void testSmudge() {
        BarcodeWand wand = new BarcodeWand();
        wand.print(5, 1);
        DUE.is("first smudge", wand.smudge(0, 9), 0);
        DUE.is("second smudge", wand.smudge(0, -9), 9);
        DUE.is("third smudge", wand.smudge(0, 0), -9);
        DUE.is("the last element's smudge", wand.smudge(12, 4), 0);
        DUE.is("the last element's smudge again", wand.smudge(12, 4), 4);
        DUE.is("saved by smudges", wand.savedStates(), 6);
        int[] elements = {-1, 13, 40, 41, Integer.MIN_VALUE, Integer.MAX_VALUE};
        for (int element : elements) {
            DUE.isOutOfBounds("smudge of " + element, () -> wand.smudge(element, 0));
            DUE.isOutOfBounds("wrong smudge of " + element, () -> wand.smudge(element, 10));
        }
        int[] tenths = {-10, 10, Integer.MIN_VALUE, Integer.MAX_VALUE};
        for (int tenth : tenths) {
            DUE.isIllegalArgument("smudge " + tenth, () -> wand.smudge(12, tenth));
        }
        DUE.is("smudge after wrong ones", wand.smudge(12, 0), 4);
    }

    private static void testWidths() {
        int[][] widths = {
            {3, 2, 1, 1}, {2, 2, 2, 1}, {2, 1, 2, 2}, {1, 4, 1, 1}, {1, 1, 3, 2},
            {1, 2, 3, 1}, {1, 1, 1, 4}, {1, 3, 1, 2}, {1, 2, 1, 3}, {3, 1, 1, 2},
        };
        BarcodeWand wand = new BarcodeWand();
        for (int digit = 0; digit < 10; digit++) {
            int check = wand.print(digit, 1);
            for (int k = 0; k < 4; k++) {
                DUE.is("width " + k + " of digit " + digit, wand.width(3 + k), widths[digit][k]);
                DUE.is("width " + k + " of check digit " + check, wand.width(7 + k), widths[check][k]);
            }
            for (int k = 0; k < 3; k++) {
                DUE.is("left guard's width " + k, wand.width(k), 1);
            }
            DUE.is("right guard's space", wand.width(11), 1);
            DUE.is("right guard's bar", wand.width(12), 2);
        }
        wand.smudge(4, 9);
        DUE.is("width of a smudged element", wand.width(4), 1);
        DUE.isOutOfBounds("width(-1)", () -> wand.width(-1));
        DUE.isOutOfBounds("width(13)", () -> wand.width(13));
        DUE.isOutOfBounds("width(greatest int)", () -> wand.width(Integer.MAX_VALUE));
        DUE.isOutOfBounds("width(least int)", () -> wand.width(Integer.MIN_VALUE));
    }

    private static void testLabelDigits() {
        BarcodeWand wand = new BarcodeWand();
        wand.print(1203, 6);
        // 3*3 + 0 + 2*3 + 1 = 16
        int[] digits = {0, 0, 1, 2, 0, 3, 4};
        for (int k = 0; k < digits.length; k++) {
            DUE.is("labelDigit(" + k + ")", wand.labelDigit(k), digits[k]);
        }
        DUE.isOutOfBounds("labelDigit(-1)", () -> wand.labelDigit(-1));
        DUE.isOutOfBounds("labelDigit(7)", () -> wand.labelDigit(7));
        DUE.isOutOfBounds("labelDigit(greatest int)", () -> wand.labelDigit(Integer.MAX_VALUE));
    }
}
