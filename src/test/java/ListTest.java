/** Promises 18 to 23. */
public final class ListTest {
    private static final Due DUE = new Due();

    private ListTest() {
    }

    public static void main(String[] args) {
        testOrderAndCounts();
        testLengthsMakeCodesDifferent();
        testEleventhCode();
        testSuccessesAndFailures();
        testGreatestCounts();
        testFailedReadingsAreNotListed();
        testWrongInputs();
        testWrongInputsOfAFullList();
        DUE.end();
    }

    private static void drawLabel(BarcodeWand wand, int digits, int count) {
        wand.print(digits, count);
        wand.draw(20, 20, false);
    }

    private static void testOrderAndCounts() {
        BarcodeWand wand = new BarcodeWand();
        drawLabel(wand, 99999999, 8);
        drawLabel(wand, 1, 1);
        drawLabel(wand, 99999999, 8);
        wand.draw(20, 20, true);
        DUE.is("codes", wand.codes(), 2);
        DUE.is("code(0)", wand.code(0), 999999996);
        DUE.is("codeLength(0)", wand.codeLength(0), 9);
        DUE.is("count(0)", wand.count(0), 3);
        DUE.is("code(1)", wand.code(1), 17);
        DUE.is("codeLength(1)", wand.codeLength(1), 2);
        DUE.is("count(1)", wand.count(1), 1);
    }

    private static void testLengthsMakeCodesDifferent() {
        BarcodeWand wand = new BarcodeWand();
        for (int count = 1; count <= 8; count++) {
            drawLabel(wand, 0, count);
        }
        DUE.is("codes of zeros", wand.codes(), 8);
        for (int k = 0; k < 8; k++) {
            DUE.is("a code of zeros", wand.code(k), 0);
            DUE.is("its length", wand.codeLength(k), k + 2);
            DUE.is("its count", wand.count(k), 1);
        }
        drawLabel(wand, 1, 3);
        drawLabel(wand, 1, 1);
        DUE.is("code 0017", wand.code(8), 17);
        DUE.is("code 17", wand.code(9), 17);
        DUE.is("length of 0017", wand.codeLength(8), 4);
        DUE.is("length of 17", wand.codeLength(9), 2);
    }

    private static void testEleventhCode() {
        BarcodeWand wand = new BarcodeWand();
        for (int digits = 0; digits < 10; digits++) {
            drawLabel(wand, digits, 1);
        }
        drawLabel(wand, 3, 1);
        DUE.is("ten codes", wand.codes(), 10);
        DUE.is("count of the fourth", wand.count(3), 2);
        drawLabel(wand, 10, 2);
        DUE.is("still ten codes", wand.codes(), 10);
        DUE.is("the second one is the first now", wand.code(0), 17);
        DUE.is("the fourth one is the third now", wand.code(2), 31);
        DUE.is("its count goes along", wand.count(2), 2);
        DUE.is("the new one is the last", wand.code(9), 109);
        DUE.is("its length", wand.codeLength(9), 3);
        DUE.is("its count", wand.count(9), 1);
        drawLabel(wand, 0, 1);
        DUE.is("the removed one comes again as the last", wand.code(9), 0);
        DUE.is("counted anew", wand.count(9), 1);
        DUE.is("and the next one is removed", wand.code(0), 24);
        wand.undo();
        DUE.is("undo brings back the removed one", wand.code(0), 17);
    }

    private static void testSuccessesAndFailures() {
        BarcodeWand wand = new BarcodeWand();
        wand.read();
        wand.read();
        drawLabel(wand, 5, 1);
        wand.draw(1, 50, true);
        DUE.is("successes", wand.successes(), 1);
        DUE.is("failures", wand.failures(), 3);
        DUE.is("codes", wand.codes(), 1);
        wand.read();
        DUE.is("failures", wand.failures(), 4);
        for (int k = 0; k < 5; k++) {
            wand.undo();
        }
        DUE.is("successes after undo", wand.successes(), 0);
        DUE.is("failures after undo", wand.failures(), 1);
        DUE.is("codes after undo", wand.codes(), 0);
    }

    // the greatest counts that 512 calls reach without a text, and far more with texts
    private static void testGreatestCounts() {
        BarcodeWand wand = new BarcodeWand();
        wand.print(99999999, 8);
        for (int k = 1; k <= 500; k++) {
            DUE.is("draw number " + k, wand.draw(20, 20, k % 2 == 0), k % 2 == 0 ? -1 : 0);
        }
        DUE.is("count of 500", wand.count(0), 500);
        DUE.is("successes of 500", wand.successes(), 500);
        DUE.is("failures of 500", wand.failures(), 0);
        DUE.is("codes of 500", wand.codes(), 1);
        DUE.is("the greatest code", wand.code(0), 999999996);
        wand.undo();
        DUE.is("count after undo", wand.count(0), 499);
        BarcodeWand unread = new BarcodeWand();
        for (int k = 0; k < 500; k++) {
            unread.read();
        }
        DUE.is("500 failures", unread.failures(), 500);
        DUE.is("no successes", unread.successes(), 0);
    }

    // "If the reading succeeds, the code is added to the list": only then
    private static void testFailedReadingsAreNotListed() {
        BarcodeWand wand = new BarcodeWand();
        drawLabel(wand, 5, 1);
        wand.smudge(0, 9);
        DUE.is("draw fails", wand.draw(20, 20, false), 2);
        DUE.is("read fails", wand.read(), 2);
        DUE.is("codes after failures", wand.codes(), 1);
        DUE.is("count after failures", wand.count(0), 1);
        DUE.is("failures", wand.failures(), 2);
        wand.smudge(0, 0);
        DUE.is("draw succeeds", wand.draw(20, 20, false), 0);
        DUE.is("count after a success", wand.count(0), 2);
    }

    private static void testWrongInputsOfAFullList() {
        BarcodeWand wand = new BarcodeWand();
        for (int digits = 0; digits < 12; digits++) {
            drawLabel(wand, digits, 2);
            int next = Math.min(digits + 1, 10);
            DUE.isTrue("the last code of " + next, wand.code(next - 1) / 10 == digits);
            DUE.is("the last length of " + next, wand.codeLength(next - 1), 3);
            DUE.is("the last count of " + next, wand.count(next - 1), 1);
            DUE.isOutOfBounds("code(" + next + ")", () -> wand.code(next));
            DUE.isOutOfBounds("codeLength(" + next + ")", () -> wand.codeLength(next));
            DUE.isOutOfBounds("count(" + next + ")", () -> wand.count(next));
        }
        DUE.is("the first of twelve codes that stays", wand.code(0), 24);
    }

    private static void testWrongInputs() {
        BarcodeWand wand = new BarcodeWand();
        DUE.isOutOfBounds("code(0) of none", () -> wand.code(0));
        DUE.isOutOfBounds("codeLength(0) of none", () -> wand.codeLength(0));
        DUE.isOutOfBounds("count(0) of none", () -> wand.count(0));
        drawLabel(wand, 5, 1);
        int[] wrong = {-1, 1, 10, Integer.MIN_VALUE, Integer.MAX_VALUE};
        for (int code : wrong) {
            DUE.isOutOfBounds("code(" + code + ")", () -> wand.code(code));
            DUE.isOutOfBounds("codeLength(" + code + ")", () -> wand.codeLength(code));
            DUE.isOutOfBounds("count(" + code + ")", () -> wand.count(code));
        }
    }
}
