import java.util.ArrayList;
import java.util.List;
import java.util.function.Supplier;
import java.util.function.ToLongFunction;

/**
 * Each sentence of the document that begins with "Throws": which exception a refused call throws, also where more
 * than one applies, and that it changes nothing. An object that refused a call must answer all that follows like
 * another one with the same calls before it, which was never asked.
 */
public final class RefusedCallsTest {
    private static final Due DUE = new Due();
    private static final Class<? extends Exception> ARGUMENT = IllegalArgumentException.class;
    private static final Class<? extends Exception> STATE = IllegalStateException.class;
    private static final Class<? extends Exception> INDEX = IndexOutOfBoundsException.class;
    private static final int LEAST = Integer.MIN_VALUE;
    private static final int GREATEST = Integer.MAX_VALUE;

    private final String name;
    private final Supplier<BarcodeWand> maker;

    private RefusedCallsTest(String name, Supplier<BarcodeWand> maker) {
        this.name = name;
        this.maker = maker;
    }

    public static void main(String[] args) {
        RefusedCallsTest ofNew = new RefusedCallsTest("a new wand", BarcodeWand::new);
        RefusedCallsTest ofUsed = new RefusedCallsTest("a used wand", RefusedCallsTest::used);
        RefusedCallsTest ofFull = new RefusedCallsTest("a full wand", RefusedCallsTest::full);
        ofNew.refuseWhatIsWrongAlways();
        ofUsed.refuseWhatIsWrongAlways();
        ofFull.refuseWhatIsWrongAlways();
        refuseOfNew(ofNew);
        refuseOfUsed(ofUsed);
        refuseOfFull(ofFull);
        testLastAllowedOfUsed();
        testLastAllowedOfFull();
        DUE.end();
    }

    /** A label of three digits, smudged, other times, two codes, a text that is not complete, three states. */
    private static BarcodeWand used() {
        BarcodeWand wand = new BarcodeWand();
        wand.print(5, 1);
        wand.draw(20, 20, true);
        wand.print(12, 2);
        wand.draw(20, 22, false);
        wand.setTolerance(3);
        // What was saved and taken back must not shine through the states that are saved next.
        for (int k = 0; k < 5; k++) {
            wand.undo();
        }
        Due.type(wand, "p5;d20,20;p12;d20,22;b1,50");
        wand.run();
        wand.setTolerance(3);
        wand.smudge(7, -4);
        Due.type(wand, "p1;s4=");
        return wand;
    }

    /** Nine digits, 41 times, ten codes, 60 characters with an error, six states. */
    private static BarcodeWand full() {
        BarcodeWand wand = new BarcodeWand();
        for (int digits = 0; digits < 10; digits++) {
            wand.print(digits, 8);
            wand.draw(20, 20, digits % 2 == 0);
        }
        wand.smudge(40, -9);
        wand.smudge(0, 9);
        wand.setTolerance(8);
        wand.draw(50, 49, true);
        for (int k = 0; k < 19; k++) {
            Due.type(wand, "p9;");
        }
        Due.type(wand, "d51");
        return wand;
    }

    /** What a call answers, or a number for the exception that it throws. */
    private static long answer(BarcodeWand wand, ToLongFunction<BarcodeWand> call) {
        try {
            return call.applyAsLong(wand);
        } catch (RuntimeException exception) {
            return Long.MIN_VALUE + exception.getClass().getName().hashCode();
        }
    }

    private static void addAnswers(List<Long> answers, BarcodeWand wand) {
        answers.add((long) wand.savedStates());
        answers.add((long) wand.firstError());
        answers.add(wand.digest());
        for (int k = 0; k < 9; k++) {
            int number = k;
            answers.add(answer(wand, w -> w.labelDigit(number)));
            answers.add((long) wand.digit(k));
        }
    }

    /** All that is seen of an object on the way back through its saved states; at last its buffer. */
    private static List<Long> answersOfUndo(BarcodeWand wand) {
        List<Long> answers = new ArrayList<>();
        addAnswers(answers, wand);
        for (int k = 0; k < 7; k++) {
            answers.add(answer(wand, BarcodeWand::undo));
            addAnswers(answers, wand);
        }
        answers.add((long) wand.setTolerance(1));
        answers.add(answer(wand, BarcodeWand::run));
        answers.add((long) wand.clearBuffer());
        return answers;
    }

    /** What only a change shows: the tolerance, and what the text in the buffer does when it is completed. */
    private static List<Long> answersOfChange(BarcodeWand wand) {
        List<Long> answers = new ArrayList<>();
        answers.add((long) wand.setTolerance(5));
        answers.add(answer(wand, w -> w.append('7')));
        answers.add((long) wand.firstError());
        answers.add(answer(wand, BarcodeWand::run));
        addAnswers(answers, wand);
        answers.add((long) wand.clearBuffer());
        answers.add(answer(wand, w -> w.measure(3)));
        answers.add((long) wand.read());
        addAnswers(answers, wand);
        return answers;
    }

    private void refuse(String what, Class<? extends Exception> want, ToLongFunction<BarcodeWand> call) {
        BarcodeWand one = maker.get();
        BarcodeWand other = maker.get();
        DUE.isThrown(name + ", " + what, want, () -> call.applyAsLong(one));
        DUE.isThrown(name + ", " + what + " again", want, () -> call.applyAsLong(one));
        DUE.isThrown(name + ", " + what + " of another", want, () -> call.applyAsLong(other));
        DUE.isTrue(name + ", nothing is changed by " + what,
            answersOfUndo(one).equals(answersOfUndo(maker.get())));
        DUE.isTrue(name + ", nothing else is changed by " + what,
            answersOfChange(other).equals(answersOfChange(maker.get())));
    }

    /** Numbers that no state of the object makes right. */
    private void refuseWhatIsWrongAlways() {
        int[] counts = {LEAST, -1, 0, 9, GREATEST};
        for (int count : counts) {
            refuse("print(0, " + count + ")", ARGUMENT, w -> w.print(0, count));
            refuse("print(-1, " + count + ")", ARGUMENT, w -> w.print(-1, count));
            refuse("print(greatest, " + count + ")", ARGUMENT, w -> w.print(GREATEST, count));
        }
        int tooMany = 1;
        for (int count = 1; count <= 8; count++) {
            tooMany *= 10;
            int length = count;
            int[] wrong = {LEAST, -1, tooMany, GREATEST};
            for (int digits : wrong) {
                refuse("print(" + digits + ", " + count + ")", ARGUMENT, w -> w.print(digits, length));
            }
        }
        int[] periods = {LEAST, -1, 0, 51, GREATEST};
        for (int period : periods) {
            refuse("draw to " + period, ARGUMENT, w -> w.draw(1, period, false));
            refuse("draw from " + period, ARGUMENT, w -> w.draw(period, 50, true));
            refuse("draw both " + period, ARGUMENT, w -> w.draw(period, period, true));
            refuse("ifDrawn to " + period, ARGUMENT, w -> w.ifDrawn(50, period, false));
            refuse("ifDrawn from " + period, ARGUMENT, w -> w.ifDrawn(period, 1, true));
        }
        int[] times = {LEAST, -1, 0, 10000, GREATEST};
        for (int time : times) {
            refuse("measure(" + time + ")", ARGUMENT, w -> w.measure(time));
        }
        int[] tolerances = {LEAST, -1, 0, 9, GREATEST};
        for (int tolerance : tolerances) {
            refuse("setTolerance(" + tolerance + ")", ARGUMENT, w -> w.setTolerance(tolerance));
        }
        int[] codes = {LEAST, -1, 0, 32, 127, 65536 + 'p', GREATEST};
        for (int code : codes) {
            refuse("append(" + code + ")", ARGUMENT, w -> w.append(code));
        }
        int[] digits = {LEAST, -1, 9, GREATEST};
        for (int digit : digits) {
            refuse("digit(" + digit + ")", INDEX, w -> w.digit(digit));
        }
        refuseIndexes(41, 41, 9, 10);
    }

    /** Indexes below the first one, and from these on above the last one. */
    private void refuseIndexes(int elements, int times, int digits, int codes) {
        int[] ofElements = {LEAST, -1, elements, GREATEST};
        for (int element : ofElements) {
            refuse("width(" + element + ")", INDEX, w -> w.width(element));
            refuse("greatestSmudge(" + element + ")", INDEX, w -> w.greatestSmudge(element));
            refuse("smudge(" + element + ", 9)", INDEX, w -> w.smudge(element, 9));
            refuse("smudge(" + element + ", 10), two exceptions", INDEX, w -> w.smudge(element, 10));
            refuse("smudge(" + element + ", -10), two exceptions", INDEX, w -> w.smudge(element, -10));
        }
        int[] ofTimes = {LEAST, -1, times, GREATEST};
        for (int index : ofTimes) {
            refuse("time(" + index + ")", INDEX, w -> w.time(index));
        }
        int[] ofFours = {LEAST, -1, Math.max(0, times - 3), GREATEST - 3, GREATEST - 2, GREATEST};
        for (int index : ofFours) {
            refuse("nearest(" + index + ")", INDEX, w -> w.nearest(index));
        }
        int[] ofDigits = {LEAST, -1, digits, GREATEST};
        for (int digit : ofDigits) {
            refuse("labelDigit(" + digit + ")", INDEX, w -> w.labelDigit(digit));
        }
        int[] ofCodes = {LEAST, -1, codes, GREATEST};
        for (int code : ofCodes) {
            refuse("code(" + code + ")", INDEX, w -> w.code(code));
            refuse("codeLength(" + code + ")", INDEX, w -> w.codeLength(code));
            refuse("count(" + code + ")", INDEX, w -> w.count(code));
        }
    }

    // no label, no measurement, no code, an empty buffer, no state
    private static void refuseOfNew(RefusedCallsTest wand) {
        wand.refuseIndexes(0, 0, 0, 0);
        wand.refuse("draw", STATE, w -> w.draw(1, 50, false));
        wand.refuse("ifDrawn", STATE, w -> w.ifDrawn(50, 1, true));
        wand.refuse("draw, two exceptions", ARGUMENT, w -> w.draw(0, 50, false));
        wand.refuse("draw, two exceptions", ARGUMENT, w -> w.draw(1, 51, false));
        wand.refuse("ifDrawn, two exceptions", ARGUMENT, w -> w.ifDrawn(51, 1, true));
        wand.refuse("ifDrawn, two exceptions", ARGUMENT, w -> w.ifDrawn(50, 0, true));
        wand.refuse("run of an empty buffer", ARGUMENT, BarcodeWand::run);
        wand.refuse("undo", STATE, BarcodeWand::undo);
    }

    private static void refuseOfUsed(RefusedCallsTest wand) {
        wand.refuseIndexes(17, 17, 3, 2);
        int[] smudges = {LEAST, -10, 10, GREATEST};
        for (int tenths : smudges) {
            wand.refuse("smudge(0, " + tenths + ")", ARGUMENT, w -> w.smudge(0, tenths));
            wand.refuse("smudge(16, " + tenths + ")", ARGUMENT, w -> w.smudge(16, tenths));
        }
        wand.refuse("run of a text that goes on", ARGUMENT, BarcodeWand::run);
    }

    private static void refuseOfFull(RefusedCallsTest wand) {
        wand.refuse("measure", STATE, w -> w.measure(1));
        wand.refuse("measure", STATE, w -> w.measure(9999));
        wand.refuse("measure, two exceptions", ARGUMENT, w -> w.measure(0));
        wand.refuse("measure, two exceptions", ARGUMENT, w -> w.measure(10000));
        wand.refuse("append", STATE, w -> w.append(33));
        wand.refuse("append", STATE, w -> w.append(126));
        wand.refuse("append, two exceptions", ARGUMENT, w -> w.append(32));
        wand.refuse("append, two exceptions", ARGUMENT, w -> w.append(127));
        int[] smudges = {LEAST, -10, 10, GREATEST};
        for (int tenths : smudges) {
            wand.refuse("smudge(40, " + tenths + ")", ARGUMENT, w -> w.smudge(40, tenths));
        }
        wand.refuse("run of a text with an error", ARGUMENT, BarcodeWand::run);
    }

    // the last ones on both sides that must not be refused
    private static void testLastAllowedOfUsed() {
        BarcodeWand wand = used();
        DUE.is("saved", wand.savedStates(), 3);
        DUE.is("width(0)", wand.width(0), 1);
        DUE.is("width(16)", wand.width(16), 2);
        DUE.is("labelDigit(0)", wand.labelDigit(0), 1);
        DUE.is("labelDigit(2)", wand.labelDigit(2), 3);
        DUE.is("time(0)", wand.time(0), 100);
        DUE.is("time(16)", wand.time(16), 1);
        // the times 20 7 4 1
        DUE.is("nearest(13) of 17 times", wand.nearest(13), 0);
        DUE.is("code(0)", wand.code(0), 55);
        DUE.is("code(1)", wand.code(1), 123);
        DUE.is("codeLength(1)", wand.codeLength(1), 3);
        DUE.is("count(1)", wand.count(1), 1);
        DUE.is("digit(0) of no code", wand.digit(0), BarcodeWand.NONE);
        DUE.is("digit(8) of no code", wand.digit(8), BarcodeWand.NONE);
        DUE.is("smudge(0, -9)", wand.smudge(0, -9), 0);
        DUE.is("smudge(16, 9)", wand.smudge(16, 9), 0);
        DUE.is("smudge(7, 0)", wand.smudge(7, 0), -4);
        DUE.is("greatestSmudge(0)", wand.greatestSmudge(0), 104);
        DUE.is("greatestSmudge(16) beside a wrong left guard", wand.greatestSmudge(16), BarcodeWand.NONE);
        DUE.is("setTolerance(1)", wand.setTolerance(1), 3);
        DUE.is("setTolerance(8)", wand.setTolerance(8), 1);
        DUE.is("the buffer", wand.clearBuffer(), 6);
    }

    private static void testLastAllowedOfFull() {
        BarcodeWand wand = full();
        DUE.is("saved", wand.savedStates(), 6);
        DUE.is("width(40)", wand.width(40), 2);
        DUE.is("labelDigit(8)", wand.labelDigit(8), 3);
        DUE.is("times", wand.times(), 41);
        DUE.is("time(0)", wand.time(0), 53);
        DUE.is("time(40)", wand.time(40), 95);
        // the times 149 49 49 95
        DUE.is("nearest(37)", wand.nearest(37), 9);
        DUE.is("codes", wand.codes(), 10);
        DUE.is("code(9)", wand.code(9), 93);
        DUE.is("codeLength(9)", wand.codeLength(9), 9);
        DUE.is("count(9)", wand.count(9), 1);
        DUE.is("firstError", wand.firstError(), 59);
        DUE.is("the buffer", wand.clearBuffer(), 60);
        wand.draw(20, 20, false);
        DUE.is("failed by the first smudge", wand.digit(8), BarcodeWand.NONE);
        wand.smudge(0, 0);
        wand.smudge(40, 0);
        wand.draw(20, 20, false);
        DUE.is("digit(8)", wand.digit(8), 3);
        DUE.is("digit(0)", wand.digit(0), 0);
    }
}
