/** Promises 24 to 26. */
public final class ForecastTest {
    private static final Due DUE = new Due();

    private ForecastTest() {
    }

    public static void main(String[] args) {
        testIfDrawn();
        testIfDrawnsWrongInputs();
        testGreatestSmudge();
        testGreatestSmudgeOfUnreadableLabels();
        testLeastTolerance();
        DUE.end();
    }

    private static void testIfDrawn() {
        BarcodeWand wand = new BarcodeWand();
        wand.print(5, 1);
        Due.measureAll(wand, 7, 8);
        DUE.is("ifDrawn forwards", wand.ifDrawn(10, 10, false), 0);
        DUE.is("ifDrawn backwards", wand.ifDrawn(10, 10, true), -1);
        DUE.is("ifDrawn(1, 50)", wand.ifDrawn(1, 50, false), 2);
        DUE.is("ifDrawn(50, 1) backwards", wand.ifDrawn(50, 1, true), 3);
        DUE.is("times stay", wand.times(), 2);
        DUE.is("time stays", wand.time(1), 8);
        DUE.is("nothing is counted", wand.successes() + wand.failures() + wand.codes(), 0);
        DUE.is("nothing is saved", wand.savedStates(), 3);
        wand.smudge(0, 5);
        DUE.is("ifDrawn of a smudged label", wand.ifDrawn(20, 20, false), 2);
        wand.smudge(0, 0);
        wand.smudge(4, 4);
        wand.smudge(6, -4);
        DUE.is("at the tolerance 4", wand.ifDrawn(20, 20, false), 0);
        wand.setTolerance(1);
        DUE.is("at the tolerance 1", wand.ifDrawn(20, 20, false), 3);
    }

    private static void testIfDrawnsWrongInputs() {
        BarcodeWand wand = new BarcodeWand();
        DUE.isIllegalState("ifDrawn without a label", () -> wand.ifDrawn(1, 1, false));
        DUE.isIllegalArgument("wrong ifDrawn without a label", () -> wand.ifDrawn(51, 1, false));
        wand.print(5, 1);
        int[] wrong = {0, -1, 51, Integer.MIN_VALUE, Integer.MAX_VALUE};
        for (int period : wrong) {
            DUE.isIllegalArgument("ifDrawn(" + period + ", 1)", () -> wand.ifDrawn(period, 1, false));
            DUE.isIllegalArgument("ifDrawn(1, " + period + ")", () -> wand.ifDrawn(1, period, true));
        }
        wand.ifDrawn(1, 50, false);
        wand.ifDrawn(50, 1, true);
    }

    private static void testGreatestSmudge() {
        BarcodeWand wand = new BarcodeWand();
        wand.print(1234567, 7);
        // the guard 1 1 1 is right up to 14 tenths
        DUE.is("greatestSmudge(0)", wand.greatestSmudge(0), 104);
        DUE.is("greatestSmudge(2)", wand.greatestSmudge(2), 104);
        // the bar of 20 tenths is right up to 29, the space of 10 up to 13
        DUE.is("greatestSmudge(36)", wand.greatestSmudge(36), 109);
        DUE.is("greatestSmudge(35)", wand.greatestSmudge(35), 103);
        // the space of a 1 with 28 tenths: the times 56 40 40 20, S is 156, the distance 160 is too great
        DUE.is("greatestSmudge(3)", wand.greatestSmudge(3), 107);
        wand.smudge(0, -2);
        // 2 * greatest < 24, so 11 tenths
        DUE.is("greatestSmudge(1) beside a narrow bar", wand.greatestSmudge(1), 101);
        wand.smudge(0, -3);
        DUE.is("greatestSmudge(1) beside a narrower bar", wand.greatestSmudge(1), 100);
        wand.smudge(2, -3);
        DUE.is("greatestSmudge(1) between narrow bars", wand.greatestSmudge(1), 100);
        wand.smudge(0, -5);
        wand.smudge(2, -5);
        DUE.is("greatestSmudge(1) must be less than 0", wand.greatestSmudge(1), 97);
        wand.smudge(0, -9);
        wand.smudge(2, -9);
        DUE.is("greatestSmudge(1) must be the least one", wand.greatestSmudge(1), 91);
        DUE.is("its own smudge stays", wand.smudge(1, 0), 0);
        DUE.is("no times", wand.times(), 0);
    }

    private static void testGreatestSmudgeOfUnreadableLabels() {
        BarcodeWand wand = new BarcodeWand();
        wand.print(1234567, 7);
        wand.smudge(0, 9);
        DUE.is("the wrong element itself can be mended", wand.greatestSmudge(0), 104);
        DUE.is("with its neighbour it cannot", wand.greatestSmudge(1), -1);
        DUE.is("no other element helps", wand.greatestSmudge(10), -1);
        wand.smudge(1, -9);
        DUE.is("two wrong elements", wand.greatestSmudge(0), -1);
        DUE.isOutOfBounds("greatestSmudge(-1)", () -> wand.greatestSmudge(-1));
        DUE.isOutOfBounds("greatestSmudge(37)", () -> wand.greatestSmudge(37));
        DUE.isOutOfBounds("greatestSmudge(greatest int)", () -> wand.greatestSmudge(Integer.MAX_VALUE));
        DUE.isOutOfBounds("greatestSmudge(least int)", () -> wand.greatestSmudge(Integer.MIN_VALUE));
    }

    private static void testLeastTolerance() {
        BarcodeWand wand = new BarcodeWand();
        DUE.is("leastTolerance of nothing", wand.leastTolerance(), -1);
        Due.measureAll(wand, 10, 10, 10, 30, 20, 10, 10, 30, 20, 10, 10, 10, 20);
        DUE.is("leastTolerance of clear times", wand.leastTolerance(), 1);
        Due.remeasure(wand, 10, 10, 10, 25, 25, 10, 10, 30, 20, 10, 10, 10, 20);
        DUE.is("leastTolerance of the distance 70", wand.leastTolerance(), 4);
        Due.remeasure(wand, 20, 10, 10, 10, 20, 30, 10, 10, 26, 24, 10, 10, 10);
        wand.setTolerance(1);
        DUE.is("leastTolerance of the distance 84 backwards", wand.leastTolerance(), 5);
        // the distance of 6 is 126, S is 70
        Due.remeasure(wand, 10, 10, 10, 19, 10, 10, 31, 20, 10, 20, 20, 10, 20);
        DUE.is("leastTolerance of the distance 126", wand.leastTolerance(), 8);
        DUE.is("the tolerance stays", wand.setTolerance(4), 1);
        Due.remeasure(wand, 10, 10, 10, 20, 15, 20, 15, 30, 20, 10, 10, 10, 20);
        DUE.is("leastTolerance of tied digits", wand.leastTolerance(), -1);
        Due.remeasure(wand, 10, 10, 10, 30, 20, 10, 10, 20, 20, 20, 10, 10, 20);
        DUE.is("leastTolerance of a wrong check digit", wand.leastTolerance(), -1);
    }
}
