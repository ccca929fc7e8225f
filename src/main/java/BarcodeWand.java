/** A wand that reads bar codes, as ../shared/DOC.md promises it. */
public final class BarcodeWand {
    public static final int NONE = -1;

    private static final int LEAST_DIGITS = 2;
    private static final int MOST_DIGITS = 9;
    private static final int LEFT_GUARD = 3;
    private static final int RIGHT_GUARD = 2;
    private static final int ELEMENTS_OF_DIGIT = 4;
    private static final int MOST_ELEMENTS = 41;
    /** The widths of the digits 0 to 9, four for each of them. */
    private static final int[] WIDTHS = {
        3, 2, 1, 1,
        2, 2, 2, 1,
        2, 1, 2, 2,
        1, 4, 1, 1,
        1, 1, 3, 2,
        1, 2, 3, 1,
        1, 1, 1, 4,
        1, 3, 1, 2,
        1, 2, 1, 3,
        3, 1, 1, 2,
    };
    private static final int MODULES_OF_DIGIT = 7;

    private static final int GREATEST_SMUDGE = 9;
    private static final int SMUDGE_OFFSET = 100;
    private static final int GREATEST_PERIOD = 50;
    private static final int FORECAST_PERIOD = 20;
    private static final int GREATEST_TIME = 9999;
    private static final int FIRST_TOLERANCE = 4;
    private static final int GREATEST_TOLERANCE = 8;

    private static final int READ_FORWARDS = 0;
    private static final int READ_BACKWARDS = -1;
    private static final int WRONG_LENGTH = 1;
    private static final int WRONG_LEFT_GUARD = 2;
    private static final int WRONG_DIGIT = 3;
    private static final int WRONG_RIGHT_GUARD = 4;
    private static final int WRONG_CHECK_DIGIT = 5;

    private static final int MOST_CODES = 10;
    private static final int MOST_CHARACTERS = 60;
    private static final int FIRST_CHARACTER = 33;
    private static final int LAST_CHARACTER = 126;
    private static final int MOST_SAVED = 6;
    private static final long FIRST_HASH = 4025;

    private final State state = new State();
    private final SavedStates history = new SavedStates();
    private final Reader reader = new Reader();
    /** The times of a drawing that is only forecast. */
    private final Row forecast = new Row(MOST_ELEMENTS);
    private final Row buffer = new Row(MOST_CHARACTERS);
    private final CommandParser parser = new CommandParser();

    public BarcodeWand() {
    }

    // ---- label

    public int print(int digits, int count) throws IllegalArgumentException {
        if (count < LEAST_DIGITS - 1 || count > MOST_DIGITS - 1) {
            throw new IllegalArgumentException("count is not 1 to 8");
        }
        if (digits < 0 || digits >= powerOfTen(count)) {
            throw new IllegalArgumentException("digits is negative or has more than count digits");
        }
        history.save(state);
        state.label.setDigits(digits, count);
        return state.label.digits.at(count);
    }

    public int smudge(int element, int tenths) throws IndexOutOfBoundsException, IllegalArgumentException {
        requireElement(element);
        if (tenths < -GREATEST_SMUDGE || tenths > GREATEST_SMUDGE) {
            throw new IllegalArgumentException("tenths is not -9 to 9");
        }
        history.save(state);
        int previous = state.label.smudges.at(element);
        state.label.smudges.put(element, tenths);
        return previous;
    }

    public int elements() {
        return state.label.size();
    }

    public int width(int element) throws IndexOutOfBoundsException {
        requireElement(element);
        return state.label.widthOf(element);
    }

    public int labelDigit(int digit) throws IndexOutOfBoundsException {
        if (!state.label.digits.has(digit)) {
            throw new IndexOutOfBoundsException("the label has no such digit");
        }
        return state.label.digits.at(digit);
    }

    // ---- measurement

    public int draw(int left, int right, boolean isBackwards)
            throws IllegalArgumentException, IllegalStateException {
        requireDrawing(left, right);
        history.save(state);
        state.label.drawInto(state.measurement, left, right, isBackwards);
        return readAndCount();
    }

    public int measure(int time) throws IllegalArgumentException, IllegalStateException {
        if (time < 1 || time > GREATEST_TIME) {
            throw new IllegalArgumentException("time is not 1 to 9999");
        }
        if (state.measurement.isFull()) {
            throw new IllegalStateException("the measurement contains 41 times");
        }
        history.save(state);
        state.measurement.add(time);
        return state.measurement.size();
    }

    public int clearMeasurement() {
        history.save(state);
        int removed = state.measurement.size();
        state.measurement.clear();
        return removed;
    }

    public int read() {
        history.save(state);
        return readAndCount();
    }

    public int times() {
        return state.measurement.size();
    }

    public int time(int index) throws IndexOutOfBoundsException {
        if (!state.measurement.has(index)) {
            throw new IndexOutOfBoundsException("there is no such time");
        }
        return state.measurement.at(index);
    }

    public int setTolerance(int tolerance) throws IllegalArgumentException {
        if (tolerance < 1 || tolerance > GREATEST_TOLERANCE) {
            throw new IllegalArgumentException("tolerance is not 1 to 8");
        }
        history.save(state);
        int previous = state.tolerance;
        state.tolerance = tolerance;
        return previous;
    }

    // ---- reading, without counting it

    public int result() {
        return reader.resultOf(state.measurement, state.tolerance);
    }

    public int reason(boolean isBackwards) {
        return reader.failureOf(state.measurement, isBackwards, state.tolerance);
    }

    public int digit(int digit) throws IndexOutOfBoundsException {
        if (digit < 0 || digit >= MOST_DIGITS) {
            throw new IndexOutOfBoundsException("digit is not 0 to 8");
        }
        int result = reader.resultOf(state.measurement, state.tolerance);
        return hasSucceeded(result) && reader.digits.has(digit) ? reader.digits.at(digit) : NONE;
    }

    public int nearest(int index) throws IndexOutOfBoundsException {
        if (index < 0 || index > state.measurement.size() - ELEMENTS_OF_DIGIT) {
            throw new IndexOutOfBoundsException("there are no four times from this index on");
        }
        reader.findNearest(state.measurement, index);
        return reader.nearestDigit;
    }

    // ---- list

    public int codes() {
        return state.list.numbers.size();
    }

    public int code(int code) throws IndexOutOfBoundsException {
        requireCode(code);
        return state.list.numbers.at(code);
    }

    public int codeLength(int code) throws IndexOutOfBoundsException {
        requireCode(code);
        return state.list.lengths.at(code);
    }

    public int count(int code) throws IndexOutOfBoundsException {
        requireCode(code);
        return state.list.counts.at(code);
    }

    public int successes() {
        return state.successes;
    }

    public int failures() {
        return state.failures;
    }

    // ---- forecasts; they change nothing

    public int ifDrawn(int left, int right, boolean isBackwards)
            throws IllegalArgumentException, IllegalStateException {
        requireDrawing(left, right);
        state.label.drawInto(forecast, left, right, isBackwards);
        return reader.resultOf(forecast, state.tolerance);
    }

    public int greatestSmudge(int element) throws IndexOutOfBoundsException {
        requireElement(element);
        state.label.drawInto(forecast, FORECAST_PERIOD, FORECAST_PERIOD, false);
        for (int tenths = GREATEST_SMUDGE; tenths >= -GREATEST_SMUDGE; tenths--) {
            int time = state.label.timeOf(element, tenths, FORECAST_PERIOD, FORECAST_PERIOD);
            forecast.put(element, time);
            int failure = reader.failureOf(forecast, false, state.tolerance);
            if (failure == 0) {
                return SMUDGE_OFFSET + tenths;
            }
            // A part without this element stays wrong whatever the smudge is.
            if (!reader.hasFailedAt(element)) {
                return NONE;
            }
        }
        return NONE;
    }

    public int leastTolerance() {
        for (int tolerance = 1; tolerance <= GREATEST_TOLERANCE; tolerance++) {
            if (hasSucceeded(reader.resultOf(state.measurement, tolerance))) {
                return tolerance;
            }
        }
        return NONE;
    }

    // ---- command text

    public int append(int code) throws IllegalArgumentException, IllegalStateException {
        if (code < FIRST_CHARACTER || code > LAST_CHARACTER) {
            throw new IllegalArgumentException("code is not 33 to 126");
        }
        if (buffer.isFull()) {
            throw new IllegalStateException("the buffer contains 60 characters");
        }
        buffer.add(code);
        return buffer.size();
    }

    public int clearBuffer() {
        int length = buffer.size();
        buffer.clear();
        return length;
    }

    public int firstError() {
        return parseBuffer();
    }

    public int run() throws IllegalArgumentException {
        boolean hasError = parseBuffer() < buffer.size();
        if (hasError || !parser.isAtEndOfCommand()) {
            throw new IllegalArgumentException("the buffer is not a complete command text");
        }
        history.save(state);
        int executed = 0;
        boolean isGoingOn = true;
        parser.restart();
        for (int index = 0; isGoingOn && index < buffer.size(); index++) {
            parser.accept(buffer.at(index));
            if (index == buffer.size() - 1 || buffer.at(index) == ';') {
                isGoingOn = executeCommand();
                executed += isGoingOn ? 1 : 0;
            }
        }
        buffer.clear();
        return executed;
    }

    // ---- undo

    public int undo() throws IllegalStateException {
        if (history.size() == 0) {
            throw new IllegalStateException("no state is saved");
        }
        history.restore(state);
        return history.size();
    }

    public int savedStates() {
        return history.size();
    }

    public long digest() {
        long hash = FIRST_HASH;
        hash = 31 * hash + elements();
        hash = 31 * hash + times();
        hash = 31 * hash + result();
        hash = 31 * hash + reason(false);
        hash = 31 * hash + reason(true);
        hash = 31 * hash + leastTolerance();
        hash = 31 * hash + codes();
        hash = 31 * hash + successes();
        hash = 31 * hash + failures();
        for (int element = 0; element < state.label.size(); element++) {
            hash = 31 * hash + state.label.widthOf(element);
            hash = 31 * hash + state.label.smudges.at(element);
            hash = 31 * hash + greatestSmudge(element);
        }
        for (int index = 0; index < state.measurement.size(); index++) {
            hash = 31 * hash + state.measurement.at(index);
        }
        for (int code = 0; code < state.list.numbers.size(); code++) {
            hash = 31 * hash + state.list.numbers.at(code);
            hash = 31 * hash + state.list.lengths.at(code);
            hash = 31 * hash + state.list.counts.at(code);
        }
        return hash;
    }

    // ---- what the calls share

    private void requireElement(int element) {
        if (!state.label.smudges.has(element)) {
            throw new IndexOutOfBoundsException("the label has no such element");
        }
    }

    private void requireCode(int code) {
        if (!state.list.numbers.has(code)) {
            throw new IndexOutOfBoundsException("there is no such code");
        }
    }

    private void requireDrawing(int left, int right) {
        if (left < 1 || left > GREATEST_PERIOD || right < 1 || right > GREATEST_PERIOD) {
            throw new IllegalArgumentException("a period is not 1 to 50");
        }
        if (state.label.size() == 0) {
            throw new IllegalStateException("there is no label");
        }
    }

    private int readAndCount() {
        int result = reader.resultOf(state.measurement, state.tolerance);
        if (hasSucceeded(result)) {
            state.successes++;
            state.list.countReading(numberOf(reader.digits), reader.digits.size());
        } else {
            state.failures++;
        }
        return result;
    }

    /** Returns the index of the first error, or the buffer's length. */
    private int parseBuffer() {
        parser.restart();
        for (int index = 0; index < buffer.size(); index++) {
            if (!parser.accept(buffer.at(index))) {
                return index;
            }
        }
        return buffer.size();
    }

    /** Returns false, and changes nothing, where the command's method would throw. */
    private boolean executeCommand() {
        if (parser.kind == 'p') {
            state.label.setDigits(parser.first, parser.numberLength);
            return true;
        }
        if (parser.kind == 's') {
            boolean isElement = state.label.smudges.has(parser.first);
            state.label.smudges.put(parser.first, parser.signedSecond());
            return isElement;
        }
        if (state.label.size() == 0) {
            return false;
        }
        state.label.drawInto(state.measurement, parser.first, parser.second, parser.kind == 'b');
        readAndCount();
        return true;
    }

    private static boolean hasSucceeded(int result) {
        return result == READ_FORWARDS || result == READ_BACKWARDS;
    }

    private static int powerOfTen(int exponent) {
        int power = 1;
        for (int k = 0; k < exponent; k++) {
            power *= 10;
        }
        return power;
    }

    private static int numberOf(Row digits) {
        int number = 0;
        for (int k = 0; k < digits.size(); k++) {
            number = 10 * number + digits.at(k);
        }
        return number;
    }

    /** The check digit that belongs behind the first digits of a row. */
    private static int checkDigitFor(Row digits, int count) {
        int sum = 0;
        int weight = 3;
        for (int k = count - 1; k >= 0; k--) {
            sum += weight * digits.at(k);
            weight = 4 - weight;
        }
        return (10 - sum % 10) % 10;
    }

    /** Numbers in order, up to a capacity; every index is looked at here, so that none can stop the machine. */
    private static final class Row {
        private final int[] cells;
        private int length;

        Row(int capacity) {
            cells = new int[Math.max(capacity, 0)];
        }

        int size() {
            return length;
        }

        boolean isFull() {
            return length >= cells.length;
        }

        boolean has(int index) {
            return index >= 0 && index < length;
        }

        int at(int index) {
            return index >= 0 && index < length && index < cells.length ? cells[index] : 0;
        }

        void put(int index, int value) {
            if (index >= 0 && index < length && index < cells.length) {
                cells[index] = value;
            }
        }

        void add(int value) {
            if (length >= 0 && length < cells.length) {
                cells[length] = value;
                length++;
            }
        }

        void clear() {
            length = 0;
        }

        void fillWithZeros(int size) {
            clear();
            for (int k = 0; k < size; k++) {
                add(0);
            }
        }

        void removeFirst() {
            for (int k = 1; k < length; k++) {
                put(k - 1, at(k));
            }
            length = Math.max(length - 1, 0);
        }

        void copyFrom(Row other) {
            clear();
            for (int k = 0; k < other.length; k++) {
                add(other.at(k));
            }
        }
    }

    /** No label is a label without digits and without elements. */
    private static final class Label {
        final Row digits = new Row(MOST_DIGITS);
        final Row smudges = new Row(MOST_ELEMENTS);

        int size() {
            return smudges.size();
        }

        void setDigits(int number, int count) {
            digits.fillWithZeros(count + 1);
            int rest = number;
            for (int k = count - 1; k >= 0; k--) {
                digits.put(k, rest % 10);
                rest /= 10;
            }
            digits.put(count, checkDigitFor(digits, count));
            smudges.fillWithZeros(LEFT_GUARD + ELEMENTS_OF_DIGIT * digits.size() + RIGHT_GUARD);
        }

        int widthOf(int element) {
            if (element < LEFT_GUARD || element == size() - RIGHT_GUARD) {
                return 1;
            }
            if (element >= size() - 1) {
                return 2;
            }
            int inDigits = element - LEFT_GUARD;
            int digit = digits.at(inDigits / ELEMENTS_OF_DIGIT);
            int place = ELEMENTS_OF_DIGIT * digit + inDigits % ELEMENTS_OF_DIGIT;
            return place >= 0 && place < WIDTHS.length ? WIDTHS[place] : 0;
        }

        int timeOf(int element, int smudge, int left, int right) {
            int gaps = Math.max(size() - 1, 1);
            int tenths = 10 * widthOf(element) + smudge;
            int speed = left * (gaps - element) + right * element;
            return Math.max(tenths * speed / (10 * gaps), 1);
        }

        void drawInto(Row times, int left, int right, boolean isBackwards) {
            times.clear();
            for (int k = 0; k < size(); k++) {
                int element = isBackwards ? size() - 1 - k : k;
                times.add(timeOf(element, smudges.at(element), left, right));
            }
        }

        void copyFrom(Label other) {
            digits.copyFrom(other.digits);
            smudges.copyFrom(other.smudges);
        }
    }

    /** The codes that were read; three rows that are always equally long. */
    private static final class CodeList {
        final Row numbers = new Row(MOST_CODES);
        final Row lengths = new Row(MOST_CODES);
        final Row counts = new Row(MOST_CODES);

        void countReading(int number, int length) {
            for (int k = 0; k < numbers.size(); k++) {
                if (numbers.at(k) == number && lengths.at(k) == length) {
                    counts.put(k, counts.at(k) + 1);
                    return;
                }
            }
            if (numbers.isFull()) {
                numbers.removeFirst();
                lengths.removeFirst();
                counts.removeFirst();
            }
            numbers.add(number);
            lengths.add(length);
            counts.add(1);
        }

        void copyFrom(CodeList other) {
            numbers.copyFrom(other.numbers);
            lengths.copyFrom(other.lengths);
            counts.copyFrom(other.counts);
        }
    }

    /** All that undo brings back. */
    private static final class State {
        final Label label = new Label();
        final Row measurement = new Row(MOST_ELEMENTS);
        final CodeList list = new CodeList();
        int tolerance = FIRST_TOLERANCE;
        int successes;
        int failures;

        void copyFrom(State other) {
            label.copyFrom(other.label);
            measurement.copyFrom(other.measurement);
            list.copyFrom(other.list);
            tolerance = other.tolerance;
            successes = other.successes;
            failures = other.failures;
        }
    }

    /** A ring of states, made once, so that saving makes no new objects. */
    private static final class SavedStates {
        private final State[] ring = new State[MOST_SAVED];
        private int next;
        private int kept;

        SavedStates() {
            for (int k = 0; k < ring.length; k++) {
                ring[k] = new State();
            }
        }

        int size() {
            return kept;
        }

        void save(State state) {
            copy(state, stateAt(next));
            next = (next + 1) % MOST_SAVED;
            kept = Math.min(kept + 1, MOST_SAVED);
        }

        /** Expects that a state is saved. */
        void restore(State state) {
            next = (next + MOST_SAVED - 1) % MOST_SAVED;
            kept = Math.max(kept - 1, 0);
            copy(stateAt(next), state);
        }

        private State stateAt(int place) {
            return place >= 0 && place < ring.length ? ring[place] : null;
        }

        private static void copy(State from, State to) {
            if (from != null && to != null) {
                to.copyFrom(from);
            }
        }
    }

    /** Reads rows of times; keeps the digits and the place of failure of its last reading. */
    private static final class Reader {
        final Row digits = new Row(MOST_DIGITS);
        int nearestDigit;
        private final Row line = new Row(MOST_ELEMENTS);
        private int leastDistance;
        private int sumOfTimes;
        private boolean isTied;
        private int failedFrom;
        private int failedTo;

        int resultOf(Row times, int tolerance) {
            int forwards = failureOf(times, false, tolerance);
            if (forwards == 0) {
                return READ_FORWARDS;
            }
            int backwards = failureOf(times, true, tolerance);
            return backwards == 0 ? READ_BACKWARDS : Math.max(forwards, backwards);
        }

        /** Returns the reason of the failure; 0 if the reading does not fail. */
        int failureOf(Row times, boolean isBackwards, int tolerance) {
            layOut(times, isBackwards);
            int count = digitsOf(line.size());
            if (count == 0) {
                return failAt(WRONG_LENGTH, 0, line.size());
            }
            if (!isLeftGuardRight()) {
                return failAt(WRONG_LEFT_GUARD, 0, LEFT_GUARD);
            }
            for (int k = 0; k < count; k++) {
                int start = LEFT_GUARD + ELEMENTS_OF_DIGIT * k;
                findNearest(line, start);
                if (isTied || 4 * leastDistance > sumOfTimes * tolerance) {
                    return failAt(WRONG_DIGIT, start, start + ELEMENTS_OF_DIGIT);
                }
                digits.add(nearestDigit);
            }
            if (!isRightGuardRight()) {
                return failAt(WRONG_RIGHT_GUARD, line.size() - RIGHT_GUARD, line.size());
            }
            boolean isCheckRight = digits.at(count - 1) == checkDigitFor(digits, count - 1);
            return isCheckRight ? 0 : failAt(WRONG_CHECK_DIGIT, 0, line.size());
        }

        boolean hasFailedAt(int element) {
            return element >= failedFrom && element < failedTo;
        }

        /** Finds the digit with the least distance to four times; the least one of several. */
        void findNearest(Row times, int start) {
            int t0 = times.at(start);
            int t1 = times.at(start + 1);
            int t2 = times.at(start + 2);
            int t3 = times.at(start + 3);
            sumOfTimes = t0 + t1 + t2 + t3;
            nearestDigit = NONE;
            for (int place = 0; place + 3 < WIDTHS.length; place += ELEMENTS_OF_DIGIT) {
                int distance = amountOff(t0, WIDTHS[place]) + amountOff(t1, WIDTHS[place + 1])
                        + amountOff(t2, WIDTHS[place + 2]) + amountOff(t3, WIDTHS[place + 3]);
                if (nearestDigit == NONE || distance < leastDistance) {
                    nearestDigit = place / ELEMENTS_OF_DIGIT;
                    leastDistance = distance;
                    isTied = false;
                } else if (distance == leastDistance) {
                    isTied = true;
                }
            }
        }

        private int amountOff(int time, int width) {
            int off = MODULES_OF_DIGIT * time - sumOfTimes * width;
            return off < 0 ? -off : off;
        }

        private void layOut(Row times, boolean isBackwards) {
            digits.clear();
            line.clear();
            for (int k = 0; k < times.size(); k++) {
                line.add(times.at(isBackwards ? times.size() - 1 - k : k));
            }
        }

        private int failAt(int reason, int from, int to) {
            failedFrom = from;
            failedTo = to;
            return reason;
        }

        /** Returns the number of digits of a label with so many elements; 0 if no label has as many. */
        private static int digitsOf(int size) {
            int inDigits = size - LEFT_GUARD - RIGHT_GUARD;
            int count = inDigits / ELEMENTS_OF_DIGIT;
            boolean isWhole = inDigits % ELEMENTS_OF_DIGIT == 0;
            return isWhole && count >= LEAST_DIGITS && count <= MOST_DIGITS ? count : 0;
        }

        private boolean isLeftGuardRight() {
            int greatest = Math.max(line.at(0), Math.max(line.at(1), line.at(2)));
            int least = Math.min(line.at(0), Math.min(line.at(1), line.at(2)));
            return 2 * greatest < 3 * least;
        }

        private boolean isRightGuardRight() {
            int space = line.at(line.size() - 2);
            int bar = line.at(line.size() - 1);
            return 2 * bar > 3 * space && bar < 3 * space;
        }
    }

    /** Takes a command text sign by sign; keeps the command that it took last. */
    private static final class CommandParser {
        private static final int AT_KIND = 0;
        private static final int AT_FIRST = 1;
        private static final int AT_SECOND = 2;
        private static final int GREATEST_ELEMENT = MOST_ELEMENTS - 1;

        int kind;
        int first;
        int second;
        int numberLength;
        private int part;
        private boolean isNegative;

        void restart() {
            part = AT_KIND;
        }

        /** Returns false if no command text begins with the signs taken so far and this one. */
        boolean accept(int sign) {
            if (part == AT_KIND) {
                return acceptKind(sign);
            }
            if (sign >= '0' && sign <= '9') {
                return acceptDigit(sign - '0');
            }
            if (sign == '-') {
                return acceptMinus();
            }
            return acceptSeparator(sign);
        }

        boolean isAtEndOfCommand() {
            boolean isAtLastNumber = part == AT_SECOND || part == AT_FIRST && kind == 'p';
            return isAtLastNumber && numberLength > 0;
        }

        int signedSecond() {
            return isNegative ? -second : second;
        }

        private boolean acceptKind(int sign) {
            if (sign != 'p' && sign != 's' && sign != 'd' && sign != 'b') {
                return false;
            }
            kind = sign;
            first = 0;
            startNumber(AT_FIRST);
            return true;
        }

        private void startNumber(int newPart) {
            part = newPart;
            second = 0;
            numberLength = 0;
            isNegative = false;
        }

        private boolean acceptDigit(int digit) {
            int longer = 10 * (part == AT_FIRST ? first : second) + digit;
            if (!isAllowed(longer, digit)) {
                return false;
            }
            if (part == AT_FIRST) {
                first = longer;
            } else {
                second = longer;
            }
            numberLength++;
            return true;
        }

        private boolean isAllowed(int number, int lastDigit) {
            if (kind == 'p') {
                return numberLength < MOST_DIGITS - 1;
            }
            // A zero in front leaves the number as small as its last digit.
            boolean hasLeadingZero = numberLength > 0 && number == lastDigit;
            return !hasLeadingZero && number >= leastNumber() && number <= greatestNumber();
        }

        private int leastNumber() {
            return kind == 's' && !isNegative ? 0 : 1;
        }

        private int greatestNumber() {
            if (kind != 's') {
                return GREATEST_PERIOD;
            }
            return part == AT_FIRST ? GREATEST_ELEMENT : GREATEST_SMUDGE;
        }

        private boolean acceptMinus() {
            boolean isAtSmudge = kind == 's' && part == AT_SECOND && numberLength == 0 && !isNegative;
            isNegative = isNegative || isAtSmudge;
            return isAtSmudge;
        }

        private boolean acceptSeparator(int sign) {
            if (numberLength == 0) {
                return false;
            }
            if (isAtEndOfCommand()) {
                part = sign == ';' ? AT_KIND : part;
                return sign == ';';
            }
            if (sign != (kind == 's' ? '=' : ',')) {
                return false;
            }
            startNumber(AT_SECOND);
            return true;
        }
    }
}
