/** Counts the answers that are not as due; every test ends with a call of end(). */
final class Due {
    private static final int MOST_LINES = 40;

    private int asked;
    private int wrong;

    void is(String what, long got, long want) {
        asked++;
        if (got != want) {
            tell(what + " answered " + got + ", due is " + want);
        }
    }

    int wrong() {
        return wrong;
    }

    void isTrue(String what, boolean got) {
        is(what, got ? 1 : 0, 1);
    }

    /** The call must throw exactly this class, none below it. */
    void isThrown(String what, Class<? extends Exception> want, Runnable call) {
        String got = "nothing";
        try {
            call.run();
        } catch (RuntimeException exception) {
            got = exception.getClass().getName();
        }
        asked++;
        if (!got.equals(want.getName())) {
            tell(what + " threw " + got + ", due is " + want.getName());
        }
    }

    private void tell(String line) {
        wrong++;
        if (wrong <= MOST_LINES) {
            System.out.println(line);
        }
    }

    void isIllegalArgument(String what, Runnable call) {
        isThrown(what, IllegalArgumentException.class, call);
    }

    void isIllegalState(String what, Runnable call) {
        isThrown(what, IllegalStateException.class, call);
    }

    void isOutOfBounds(String what, Runnable call) {
        isThrown(what, IndexOutOfBoundsException.class, call);
    }

    void end() {
        System.out.println(asked + " answers, " + wrong + " of them not as due");
        if (wrong != 0 || asked == 0) {
            System.exit(1);
        }
    }

    static void measureAll(BarcodeWand wand, int... times) {
        for (int time : times) {
            wand.measure(time);
        }
    }

    /** Makes these times the whole measurement. */
    static void remeasure(BarcodeWand wand, int... times) {
        wand.clearMeasurement();
        measureAll(wand, times);
    }

    static void type(BarcodeWand wand, String text) {
        for (int k = 0; k < text.length(); k++) {
            wand.append(text.charAt(k));
        }
    }

    /** Makes this text the whole buffer. */
    static void retype(BarcodeWand wand, String text) {
        wand.clearBuffer();
        type(wand, text);
    }
}
