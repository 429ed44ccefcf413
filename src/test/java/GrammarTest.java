import java.util.regex.Matcher;
import java.util.regex.Pattern;

/**
 * Section 1 by every short text: what cord() and fault() answer, beside a second way to find the first
 * fault, which looks for each of the three kinds on its own over the whole text.
 */
public final class GrammarTest {
    private static final Due due = new Due();
    private static final int MOST_CALLS = 512;
    private static final int LOOKS = 6;
    private static final String SIGNS = "yfwh06;, x";
    private static final String N = " *[0-9]+ *";
    private static final String TWO = " *[0-9]+ +[0-9]+ *";
    /** What can stand there, of however many clauses and figures. */
    private static final Pattern SHAPE = Pattern.compile(
        " *(y" + N + "; *((y" + N + "|f" + TWO + "|h" + TWO + "|w" + N + "(," + N + "){0,3}); *)*)?");
    /** Of 'y', 'f', 'w', 'h'. */
    private static final int[] MOST = {1, 7, 6, 5};
    private static final Pattern NUMBER = Pattern.compile("[0-9]+");

    private static DayCords x = new DayCords();
    private static int made = 0;

    public static void main(String[] args) {
        due.sentence("1: FAULTS, at the first letter that has one, of these the least");
        behind("", 5);
        behind("y0;", 5);
        for (String front : new String[] {"y", "y0", "y 0 ", "y6;f", "y0;f5", "y0;f5 ", "y0;f5 9", "y0;w", "y0;w5", "y0;w5,4,3", "y0;w5,4,3,2",
            "y0;h", "y0;h6 ", "y0;h6 6", "y0;f5 9;", "y0;" + "f0 1;".repeat(6) + "f0 ", "y0;" + "f0 1;".repeat(7), "y0;" + "w0;".repeat(5) + "w",
            "y0;" + "w0;".repeat(6), "y0;" + "h0 0;".repeat(4) + "h0 ", "y0;" + "h0 0;".repeat(5), "y0;h0 0;w0;f0 1;w1,1;h1 1;f1 1;", "y0;f00", "y0;w06"}) {
            behind(front, 4);
        }
        due.end();
    }

    /** Every text of this front and up to so many signs more. */
    private static void behind(String front, int more) {
        tried(front);
        if (more > 0) {
            for (int i = 0; i < SIGNS.length(); i++) {
                behind(front + SIGNS.charAt(i), more - 1);
            }
        }
    }

    private static void tried(String text) {
        if (made + text.length() + LOOKS > MOST_CALLS) {
            x = new DayCords();
            made = 0;
        }
        made += text.length() + LOOKS;
        int[] fault = firstFault(text);
        boolean good = fault[0] == 0;
        due.is("cord() of '" + text + "'", Due.tell(x, text), good ? count(text, 'f', text.length()) : -10 - fault[0]);
        due.is("fault() of '" + text + "'", x.fault(), good ? Due.NONE : fault[1]);
        if (good) {
            due.is("told(0) of '" + text + "'", x.told(0), count(text, 'y', text.length()));
            due.is("told(2) of '" + text + "'", x.told(2), count(text, 'w', text.length()));
            due.is("told(3) of '" + text + "'", x.told(3), count(text, 'h', text.length()));
        }
    }

    /** Its kind (0: none) and its letter; a fault of a greater kind must come ahead to be the first. */
    private static int[] firstFault(String text) {
        int cannot = firstThatCannotStand(text);
        int end = cannot == Due.NONE ? text.length() : cannot;
        int number = firstBadNumber(text, end);
        int many = firstTooMany(text, Math.min(end, number));
        if (many < end && many < number) {
            return new int[] {3, many};
        }
        if (number < end) {
            return new int[] {2, number};
        }
        return cannot == Due.NONE ? new int[] {0, 0} : new int[] {1, cannot};
    }

    private static int firstThatCannotStand(String text) {
        for (int length = 1; length <= text.length(); length++) {
            Matcher front = SHAPE.matcher(text.substring(0, length));
            if (!front.matches() && !front.hitEnd()) {
                return length - 1;
            }
        }
        return SHAPE.matcher(text).matches() ? Due.NONE : text.length();
    }

    /** Of the numbers ahead of a letter, which can all stand where they are. */
    private static int firstBadNumber(String text, int end) {
        Matcher numbers = NUMBER.matcher(text);
        while (numbers.find() && numbers.start() < end) {
            if (isBad(numbers.group(), text.substring(0, numbers.start()))) {
                return numbers.start();
            }
        }
        return end;
    }

    private static boolean isBad(String number, String front) {
        String clause = front.substring(front.lastIndexOf(';') + 1).trim();
        boolean second = clause.length() > 1;
        switch (clause.charAt(0)) {
            case 'y': return !number.matches("0{0,2}[0-9]");
            case 'f': return !number.matches(second ? "0{0,2}[1-9]" : "0{0,2}[0-5]");
            case 'w': return !number.matches("0{0,2}[0-5]");
            default: return !number.matches("0{0,2}[0-6]");
        }
    }

    private static int firstTooMany(String text, int end) {
        for (int i = 0; i < end; i++) {
            int clause = "yfwh".indexOf(text.charAt(i));
            if (clause >= 0 && count(text, text.charAt(i), i + 1) > MOST[clause]) {
                return i;
            }
        }
        return end;
    }

    private static int count(String text, char sign, int end) {
        return (int) text.substring(0, end).chars().filter(c -> c == sign).count();
    }
}
