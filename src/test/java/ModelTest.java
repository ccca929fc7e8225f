import java.util.Random;
import java.util.function.LongSupplier;

/** Long runs of calls, of the program and of the model, whose answers must be the same. The runs are the same each time. */
public final class ModelTest {
    private static final Due DUE = new Due();
    private static final int[] EDGES =
        {Integer.MIN_VALUE, -100, -10, -9, -1, 0, 1, 8, 9, 10, 13, 40, 41, 50, 51, 9999, 10000, Integer.MAX_VALUE};
    private static final String SIGNS = "psdb;=,-0123456789x";

    private final Random random;
    private final BarcodeWand wand = new BarcodeWand();
    private final Model model = new Model();
    private final String name;
    private int calls;

    private ModelTest(int seed) {
        random = new Random(seed);
        name = "run " + seed + " ";
    }

    public static void main(String[] args) {
        for (int seed = 1; seed <= 400; seed++) {
            new ModelTest(seed).compareRun();
        }
        DUE.end();
    }

    /** The answer, or a number for the exception that is thrown. */
    private static long answer(LongSupplier call) {
        try {
            return call.getAsLong();
        } catch (RuntimeException exception) {
            String thrown = exception.getClass().getName();
            return Long.MIN_VALUE + thrown.hashCode();
        }
    }

    private void same(String what, LongSupplier got, LongSupplier want) {
        calls++;
        DUE.is(name + "call " + calls + " " + what, answer(got), answer(want));
    }

    private void compareRun() {
        int wrongBefore = DUE.wrong();
        // Behind a wrong answer the two objects differ, and nothing more is learnt.
        while (calls < 400 && DUE.wrong() == wrongBefore) {
            int kind = random.nextInt(100);
            if (kind < 45) {
                changeLabelOrDraw();
            } else if (kind < 55) {
                changeMeasurement();
            } else if (kind < 70) {
                changeByText();
            } else if (kind < 78) {
                same("undo", wand::undo, model::undo);
            } else {
                askOne();
            }
            if (random.nextInt(20) == 0) {
                same("digest", wand::digest, model::digest);
            }
        }
        same("digest", wand::digest, model::digest);
        askAll();
    }

    private int from(int least, int greatest) {
        return least + random.nextInt(greatest - least + 1);
    }

    /** Mostly a number of the range, now and then one of the edges. */
    private int about(int least, int greatest) {
        return random.nextInt(12) == 0 ? EDGES[random.nextInt(EDGES.length)] : from(least, greatest);
    }

    private void changeLabelOrDraw() {
        int kind = random.nextInt(10);
        if (kind < 2) {
            printOne();
        } else if (kind < 5) {
            int element = about(0, Math.max(0, model.elements() - 1));
            int tenths = random.nextBoolean() ? about(-3, 3) : about(-9, 9);
            same("smudge", () -> wand.smudge(element, tenths), () -> model.smudge(element, tenths));
        } else if (kind < 9) {
            int left = about(1, 50);
            int right = random.nextInt(3) == 0 ? about(1, 50) : Math.max(1, Math.min(50, left));
            boolean isBackwards = random.nextBoolean();
            same("ifDrawn", () -> wand.ifDrawn(left, right, isBackwards),
                () -> model.ifDrawn(left, right, isBackwards));
            same("draw", () -> wand.draw(left, right, isBackwards), () -> model.draw(left, right, isBackwards));
        } else {
            int tolerance = about(1, 8);
            same("setTolerance", () -> wand.setTolerance(tolerance), () -> model.setTolerance(tolerance));
        }
    }

    private void printOne() {
        int count = about(1, random.nextBoolean() ? 2 : 8);
        int digits = about(0, (int) Math.pow(10, Math.max(1, Math.min(count, 8))) - 1);
        same("print", () -> wand.print(digits, count), () -> model.print(digits, count));
    }

    private void changeMeasurement() {
        int kind = random.nextInt(10);
        if (kind < 4) {
            measureSome();
        } else if (kind < 5) {
            same("clearMeasurement", wand::clearMeasurement, model::clearMeasurement);
        } else if (kind < 7) {
            same("read", wand::read, model::read);
        } else {
            int time = about(1, 9999);
            same("measure", () -> wand.measure(time), () -> model.measure(time));
        }
    }

    /** Times like those of a small label, some of them a little off, in one of both directions. */
    private void measureSome() {
        Model other = new Model();
        other.print(random.nextInt(100), 2);
        int scale = from(3, 40);
        other.draw(scale, random.nextBoolean() ? scale : from(3, 40), random.nextBoolean());
        same("clearMeasurement", wand::clearMeasurement, model::clearMeasurement);
        int spread = random.nextInt(8);
        for (int k = 0; k < other.times(); k++) {
            int time = Math.max(1, other.time(k) + from(-spread, spread));
            same("measure", () -> wand.measure(time), () -> model.measure(time));
        }
        same("read", wand::read, model::read);
    }

    private void changeByText() {
        StringBuilder text = new StringBuilder(someCommand());
        for (int more = random.nextInt(4); more > 0; more--) {
            text.append(';').append(someCommand());
        }
        if (random.nextInt(3) == 0) {
            text.setCharAt(random.nextInt(text.length()), SIGNS.charAt(random.nextInt(SIGNS.length())));
        }
        int length = random.nextInt(4) == 0 ? random.nextInt(text.length() + 1) : text.length();
        for (int k = 0; k < length; k++) {
            char sign = text.charAt(k);
            same("append", () -> wand.append(sign), () -> model.append(sign));
        }
        same("firstError", wand::firstError, model::firstError);
        same("run", wand::run, model::run);
        if (random.nextInt(4) != 0) {
            same("clearBuffer", wand::clearBuffer, model::clearBuffer);
        }
    }

    private String someCommand() {
        int kind = random.nextInt(4);
        if (kind == 0) {
            StringBuilder text = new StringBuilder("p");
            for (int more = from(1, 8); more > 0; more--) {
                text.append(random.nextInt(10));
            }
            return text.toString();
        }
        if (kind == 1) {
            return "s" + random.nextInt(random.nextInt(4) == 0 ? 43 : 17) + "=" + from(-9, 9);
        }
        return (kind == 2 ? "d" : "b") + from(1, 50) + "," + from(1, 51);
    }

    private void askOne() {
        int number = about(-1, 12);
        int element = about(0, Math.max(0, model.elements() - 1));
        int index = about(0, Math.max(0, model.times() - 1));
        switch (random.nextInt(11)) {
            case 0 -> same("width", () -> wand.width(element), () -> model.width(element));
            case 1 -> same("labelDigit", () -> wand.labelDigit(number), () -> model.labelDigit(number));
            case 2 -> same("time", () -> wand.time(index), () -> model.time(index));
            case 3 -> same("digit", () -> wand.digit(number), () -> model.digit(number));
            case 4 -> same("nearest", () -> wand.nearest(index), () -> model.nearest(index));
            case 5 -> same("code", () -> wand.code(number), () -> model.code(number));
            case 6 -> same("codeLength", () -> wand.codeLength(number), () -> model.codeLength(number));
            case 7 -> same("count", () -> wand.count(number), () -> model.count(number));
            case 8 -> same("greatestSmudge", () -> wand.greatestSmudge(element), () -> model.greatestSmudge(element));
            case 9 -> same("append", () -> wand.append(number), () -> model.append(number));
            default -> askAll();
        }
    }

    private void askAll() {
        same("elements", wand::elements, model::elements);
        same("times", wand::times, model::times);
        same("result", wand::result, model::result);
        same("reason forwards", () -> wand.reason(false), () -> model.reason(false));
        same("reason backwards", () -> wand.reason(true), () -> model.reason(true));
        same("leastTolerance", wand::leastTolerance, model::leastTolerance);
        same("codes", wand::codes, model::codes);
        same("successes", wand::successes, model::successes);
        same("failures", wand::failures, model::failures);
        same("savedStates", wand::savedStates, model::savedStates);
        same("firstError", wand::firstError, model::firstError);
    }
}
