import java.util.ArrayList;
import java.util.Arrays;
import java.util.List;
import java.util.regex.Matcher;
import java.util.regex.Pattern;

/** The document once more, written in another way and slowly, to compare the program with. */
final class Model {
    private static final String[] PATTERNS =
        {"3211", "2221", "2122", "1411", "1132", "1231", "1114", "1312", "1213", "3112"};
    private static final String PERIOD = "(?:[1-9]|[1-4][0-9]|50)";
    private static final String COMMAND = "(?:p[0-9]{1,8}|s(?:[0-9]|[1-3][0-9]|40)=(?:[0-9]|-[1-9])"
        + "|[db]" + PERIOD + "," + PERIOD + ")";
    private static final Pattern TEXT = Pattern.compile(COMMAND + "(?:;" + COMMAND + ")*");

    /** The widths of all elements, as digits; empty without a label. */
    private String widths = "";
    private String labelDigits = "";
    private List<Integer> smudges = new ArrayList<>();
    private List<Integer> times = new ArrayList<>();
    private int tolerance = 4;
    private List<String> codes = new ArrayList<>();
    private List<Integer> counts = new ArrayList<>();
    private int successes;
    private int failures;
    private String buffer = "";
    private final ArrayList<Model> saved = new ArrayList<>();

    private void takeFrom(Model other) {
        widths = other.widths;
        labelDigits = other.labelDigits;
        smudges = new ArrayList<>(other.smudges);
        times = new ArrayList<>(other.times);
        tolerance = other.tolerance;
        codes = new ArrayList<>(other.codes);
        counts = new ArrayList<>(other.counts);
        successes = other.successes;
        failures = other.failures;
    }

    private void save() {
        Model copy = new Model();
        copy.takeFrom(this);
        saved.add(copy);
        if (saved.size() > 6) {
            saved.remove(0);
        }
    }

    private static void refuseArgument(boolean isWrong) {
        if (isWrong) {
            throw new IllegalArgumentException();
        }
    }

    private static void refuseState(boolean isWrong) {
        if (isWrong) {
            throw new IllegalStateException();
        }
    }

    private static int inBounds(int index, int size) {
        if (index < 0 || index >= size) {
            throw new IndexOutOfBoundsException();
        }
        return index;
    }

    private static int checkDigit(String digits) {
        int sum = 0;
        String reverse = new StringBuilder(digits).reverse().toString();
        for (int k = 0; k < reverse.length(); k++) {
            sum += (reverse.charAt(k) - '0') * (k % 2 == 0 ? 3 : 1);
        }
        return (10 - sum % 10) % 10;
    }

    private int printDigits(String digits) {
        int check = checkDigit(digits);
        labelDigits = digits + check;
        StringBuilder made = new StringBuilder("111");
        for (char digit : labelDigits.toCharArray()) {
            made.append(PATTERNS[digit - '0']);
        }
        widths = made.append("12").toString();
        smudges = new ArrayList<>(java.util.Collections.nCopies(widths.length(), 0));
        return check;
    }

    int print(int digits, int count) {
        refuseArgument(count < 1 || count > 8);
        refuseArgument(digits < 0 || Integer.toString(digits).length() > count);
        save();
        return printDigits(String.format("%0" + count + "d", digits));
    }

    int smudge(int element, int tenths) {
        inBounds(element, smudges.size());
        refuseArgument(Math.abs((long) tenths) > 9);
        save();
        return smudges.set(element, tenths);
    }

    int elements() {
        return widths.length();
    }

    int width(int element) {
        return widths.charAt(inBounds(element, widths.length())) - '0';
    }

    int labelDigit(int digit) {
        return labelDigits.charAt(inBounds(digit, labelDigits.length())) - '0';
    }

    private static List<Integer> reversed(List<Integer> list) {
        List<Integer> other = new ArrayList<>(list);
        java.util.Collections.reverse(other);
        return other;
    }

    private List<Integer> drawnTimes(int left, int right, boolean isBackwards) {
        List<Integer> drawn = new ArrayList<>();
        int m = widths.length();
        for (int k = 0; k < m; k++) {
            long numerator = (10L * width(k) + smudges.get(k)) * (left * (m - 1 - k) + right * k);
            drawn.add((int) Math.max(1, numerator / (10 * (m - 1))));
        }
        return isBackwards ? reversed(drawn) : drawn;
    }

    private static long distance(List<Integer> four, String pattern) {
        long sum = 0;
        for (int time : four) {
            sum += time;
        }
        long distance = 0;
        for (int k = 0; k < 4; k++) {
            distance += Math.abs(7L * four.get(k) - sum * (pattern.charAt(k) - '0'));
        }
        return distance;
    }

    private static long[] distances(List<Integer> four) {
        return Arrays.stream(PATTERNS).mapToLong(pattern -> distance(four, pattern)).toArray();
    }

    private static int firstLeast(long[] distances) {
        int best = 0;
        for (int k = 1; k < 10; k++) {
            best = distances[k] < distances[best] ? k : best;
        }
        return best;
    }

    /** The digits that are read, or the reason why none are, behind an exclamation mark. */
    private static String readLine(List<Integer> line, int tolerance) {
        int size = line.size();
        if (!List.of(13, 17, 21, 25, 29, 33, 37, 41).contains(size)) {
            return "!1";
        }
        List<Integer> guard = new ArrayList<>(line.subList(0, 3));
        java.util.Collections.sort(guard);
        if (2 * guard.get(2) >= 3 * guard.get(0)) {
            return "!2";
        }
        StringBuilder digits = new StringBuilder();
        for (int from = 3; from < size - 2; from += 4) {
            List<Integer> four = line.subList(from, from + 4);
            long[] distances = distances(four);
            int best = firstLeast(distances);
            long least = distances[best];
            long sum = four.stream().mapToInt(Integer::intValue).sum();
            if (Arrays.stream(distances).filter(d -> d == least).count() > 1 || 4 * least > sum * tolerance) {
                return "!3";
            }
            digits.append(best);
        }
        int space = line.get(size - 2);
        int bar = line.get(size - 1);
        if (2 * bar <= 3 * space || bar >= 3 * space) {
            return "!4";
        }
        String others = digits.substring(0, digits.length() - 1);
        return digits.toString().equals(others + checkDigit(others)) ? digits.toString() : "!5";
    }

    private static int reasonIn(String reading) {
        return reading.startsWith("!") ? reading.charAt(1) - '0' : 0;
    }

    private static int resultOf(List<Integer> line, int tolerance) {
        int forwards = reasonIn(readLine(line, tolerance));
        int backwards = reasonIn(readLine(reversed(line), tolerance));
        return forwards == 0 ? 0 : backwards == 0 ? -1 : Math.max(forwards, backwards);
    }

    private String readDigits() {
        int result = result();
        return result > 0 ? "" : readLine(result == 0 ? times : reversed(times), tolerance);
    }

    private int readNow() {
        String digits = readDigits();
        if (digits.isEmpty()) {
            failures++;
            return result();
        }
        successes++;
        int place = codes.indexOf(digits);
        if (place >= 0) {
            counts.set(place, counts.get(place) + 1);
            return result();
        }
        codes.add(digits);
        counts.add(1);
        if (codes.size() > 10) {
            codes.remove(0);
            counts.remove(0);
        }
        return result();
    }

    private void refuseDrawing(int left, int right) {
        refuseArgument(left < 1 || left > 50 || right < 1 || right > 50);
        refuseState(widths.isEmpty());
    }

    int draw(int left, int right, boolean isBackwards) {
        refuseDrawing(left, right);
        save();
        times = drawnTimes(left, right, isBackwards);
        return readNow();
    }

    int measure(int time) {
        refuseArgument(time < 1 || time > 9999);
        refuseState(times.size() == 41);
        save();
        times.add(time);
        return times.size();
    }

    int clearMeasurement() {
        save();
        int size = times.size();
        times.clear();
        return size;
    }

    int read() {
        save();
        return readNow();
    }

    int times() {
        return times.size();
    }

    int time(int index) {
        return times.get(inBounds(index, times.size()));
    }

    int setTolerance(int newTolerance) {
        refuseArgument(newTolerance < 1 || newTolerance > 8);
        save();
        int previous = tolerance;
        tolerance = newTolerance;
        return previous;
    }

    int result() {
        return resultOf(times, tolerance);
    }

    int reason(boolean isBackwards) {
        return reasonIn(readLine(isBackwards ? reversed(times) : times, tolerance));
    }

    int digit(int digit) {
        inBounds(digit, 9);
        String digits = readDigits();
        return digit < digits.length() ? digits.charAt(digit) - '0' : -1;
    }

    int nearest(int index) {
        inBounds(index, Math.max(0, times.size() - 3));
        return firstLeast(distances(times.subList(index, index + 4)));
    }

    int codes() {
        return codes.size();
    }

    int code(int code) {
        return Integer.parseInt(codes.get(inBounds(code, codes.size())));
    }

    int codeLength(int code) {
        return codes.get(inBounds(code, codes.size())).length();
    }

    int count(int code) {
        return counts.get(inBounds(code, codes.size()));
    }

    int successes() {
        return successes;
    }

    int failures() {
        return failures;
    }

    int ifDrawn(int left, int right, boolean isBackwards) {
        refuseDrawing(left, right);
        return resultOf(drawnTimes(left, right, isBackwards), tolerance);
    }

    int greatestSmudge(int element) {
        int kept = smudges.get(inBounds(element, smudges.size()));
        int greatest = -1;
        for (int tenths = -9; tenths <= 9; tenths++) {
            smudges.set(element, tenths);
            if (readLine(drawnTimes(20, 20, false), tolerance).charAt(0) != '!') {
                greatest = tenths + 100;
            }
        }
        smudges.set(element, kept);
        return greatest;
    }

    int leastTolerance() {
        for (int k = 1; k <= 8; k++) {
            if (resultOf(times, k) <= 0) {
                return k;
            }
        }
        return -1;
    }

    int append(int code) {
        refuseArgument(code < 33 || code > 126);
        refuseState(buffer.length() == 60);
        buffer += (char) code;
        return buffer.length();
    }

    int clearBuffer() {
        int length = buffer.length();
        buffer = "";
        return length;
    }

    int firstError() {
        for (int end = 1; end <= buffer.length(); end++) {
            Matcher matcher = TEXT.matcher(buffer.substring(0, end));
            if (!matcher.matches() && !matcher.hitEnd()) {
                return end - 1;
            }
        }
        return buffer.length();
    }

    int run() {
        refuseArgument(!TEXT.matcher(buffer).matches());
        String[] commands = buffer.split(";");
        buffer = "";
        Model before = new Model();
        before.takeFrom(this);
        List<Model> savedBefore = new ArrayList<>(saved);
        int executed = 0;
        try {
            for (String command : commands) {
                execute(command.charAt(0), command.substring(1));
                executed++;
            }
        } catch (IndexOutOfBoundsException | IllegalStateException exception) {
            // the commands behind this one are left out
        }
        saved.clear();
        saved.addAll(savedBefore);
        saved.add(before);
        if (saved.size() > 6) {
            saved.remove(0);
        }
        return executed;
    }

    private void execute(char kind, String rest) {
        if (kind == 'p') {
            print(Integer.parseInt(rest), rest.length());
            return;
        }
        String[] numbers = rest.split("[=,]");
        int first = Integer.parseInt(numbers[0]);
        int second = Integer.parseInt(numbers[1]);
        if (kind == 's') {
            smudge(first, second);
        } else {
            draw(first, second, kind == 'b');
        }
    }

    int undo() {
        refuseState(saved.isEmpty());
        takeFrom(saved.remove(saved.size() - 1));
        return saved.size();
    }

    int savedStates() {
        return saved.size();
    }

    long digest() {
        List<Integer> values = new ArrayList<>(List.of(elements(), times(), result(), reason(false), reason(true),
            leastTolerance(), codes(), successes(), failures()));
        for (int k = 0; k < elements(); k++) {
            values.addAll(List.of(width(k), smudges.get(k), greatestSmudge(k)));
        }
        values.addAll(times);
        for (int k = 0; k < codes(); k++) {
            values.addAll(List.of(code(k), codeLength(k), count(k)));
        }
        long hash = 4025;
        for (int value : values) {
            hash = 31 * hash + value;
        }
        return hash;
    }
}
