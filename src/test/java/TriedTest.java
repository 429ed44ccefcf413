import java.util.ArrayDeque;
import java.util.HashMap;
import java.util.Map;

/** Promises 19 to 26: turnings, loose, felt, farthest, hooked, gap, ends, calm. */
public final class TriedTest {
    private static final Due due = new Due();
    private static final String SEVEN = "y0;f0 1;f0 1;f0 1;f0 1;f0 1;f0 1;f0 1;";

    public static void main(String[] args) {
        everyRowOfTurnings();
        turningsOfSome();
        loose();
        felt();
        hooked();
        gaps();
        ends();
        calm();
        nothingChanges();
        due.end();
    }

    private static String turned(String row, int k) {
        return new StringBuilder(row.substring(0, k)).reverse() + row.substring(k);
    }

    /** How many turnings each order of the flags 0 .. n-1 needs, from the right one outwards. */
    private static Map<String, Integer> distances(int n) {
        Map<String, Integer> steps = new HashMap<>();
        ArrayDeque<String> open = new ArrayDeque<>();
        String right = "0123456".substring(0, n);
        steps.put(right, 0);
        open.add(right);
        while (!open.isEmpty()) {
            String row = open.remove();
            for (int k = 2; k <= n; k++) {
                String then = turned(row, k);
                if (steps.putIfAbsent(then, steps.get(row) + 1) == null) {
                    open.add(then);
                }
            }
        }
        return steps;
    }

    private static void everyRowOfTurnings() {
        for (int n = 0; n <= 7; n++) {
            Map<String, Integer> steps = distances(n);
            for (String row : steps.keySet()) {
                DayCords x = Due.told(SEVEN);
                Due.hang(x, row);
                int first = Due.NONE;
                for (int k = n; k >= 2; k--) {
                    if (steps.get(turned(row, k)) < steps.get(row)) {
                        first = k;
                    }
                }
                due.is("turnings(0) of " + row, x.turnings(0), steps.get(row));
                due.is("turnings(1) of " + row, x.turnings(1), first);
            }
        }
    }

    private static void turningsOfSome() {
        DayCords x = Due.told(SEVEN);
        Due.hang(x, "61");
        due.is("turnings(0) of 61", x.turnings(0), 1);
        due.is("turnings(1) of 61", x.turnings(1), 2);
        Due.hang(x, "256");
        due.is("turnings(0) of 256", x.turnings(0), 0);
        due.is("turnings(1) of 256", x.turnings(1), Due.NONE);
        due.is("turnings(2)", x.turnings(2), Due.OUTSIDE);
        due.is("turnings(-1)", x.turnings(-1), Due.OUTSIDE);
    }

    private static void loose() {
        looseOf("", 0, 0);
        looseOf("3", 0, 0);
        looseOf("0123456", 0, 0);
        looseOf("6543210", 6, 0b0111111);
        looseOf("10", 1, 0b01);
        looseOf("1032", 2, 0b0101);
        looseOf("123450", 1, 0b1);
        looseOf("612345", 1, 0b1000000);
        looseOf("6152340", 3, 0b1100001);
        looseOf("5643201", 5, 0b0011111);
        DayCords x = Due.told(SEVEN);
        due.is("loose(2)", x.loose(2), Due.OUTSIDE);
        due.is("loose(-1)", x.loose(-1), Due.OUTSIDE);
    }

    private static void looseOf(String row, int many, int which) {
        DayCords x = Due.told(SEVEN);
        Due.hang(x, row);
        due.is("loose(0) of " + row, x.loose(0), many);
        due.is("loose(1) of " + row, x.loose(1), which);
    }

    private static void felt() {
        DayCords x = Due.told("y0;f0 3;f0 5;f0 9;");
        due.is("felt(99, 0)", x.felt(99, 0), 99);
        due.is("felt(99, 1)", x.felt(99, 1), 96);
        due.is("felt(99, 3)", x.felt(99, 3), 82);
        due.is("felt(99, 7): all are ahead", x.felt(99, 7), 82);
        due.is("felt(2, 1)", x.felt(2, 1), 0);
        due.is("felt(0, 0)", x.felt(0, 0), 0);
        due.is("farthest(0)", x.farthest(0), Due.NONE);
        due.is("farthest(1)", x.farthest(1), 0);
        due.is("farthest(3)", x.farthest(3), 0);
        due.is("farthest(4)", x.farthest(4), 1);
        due.is("farthest(8)", x.farthest(8), 1);
        due.is("farthest(9)", x.farthest(9), 2);
        due.is("farthest(99)", x.farthest(99), 2);
        x.rain(true);
        x.eat(1);
        x.sew(1, 1);
        due.is("felt(99, 1), wet", x.felt(99, 1), 93);
        due.is("felt(99, 2), one dry", x.felt(99, 2), 88);
        due.is("felt(99, 3)", x.felt(99, 3), 70);
        due.is("farthest(6), wet", x.farthest(6), 0);
        due.is("farthest(7), wet", x.farthest(7), 1);
        due.is("felt(-1, 0)", x.felt(-1, 0), Due.OUTSIDE);
        due.is("felt(100, 0)", x.felt(100, 0), Due.OUTSIDE);
        due.is("felt(0, -1)", x.felt(0, -1), Due.OUTSIDE);
        due.is("felt(0, 8)", x.felt(0, 8), Due.OUTSIDE);
        due.is("farthest(-1)", x.farthest(-1), Due.OUTSIDE);
        due.is("farthest(100)", x.farthest(100), Due.OUTSIDE);
    }

    private static void hooked() {
        DayCords x = Due.told("y0;f0 1;f0 1;f0 1;f0 1;f0 1;h0 1;h2 0;h3 1;h4 0;h0 0;");
        due.is("hooked(0)", x.hooked(0), 0);
        due.is("hooked(1): the least of like ones", x.hooked(1), 1);
        due.is("hooked(2)", x.hooked(2), 1);
        due.is("hooked(4)", x.hooked(4), 2);
        due.is("hooked(16)", x.hooked(16), 4);
        due.is("hooked(12)", x.hooked(12), 4);
        due.is("hooked(31)", x.hooked(31), 5);
        due.is("hooked(32)", x.hooked(32), Due.UNKNOWN);
        due.is("hooked(-1)", x.hooked(-1), Due.UNKNOWN);
        due.is("hooked(MIN)", x.hooked(Integer.MIN_VALUE), Due.UNKNOWN);
        x.turn(5);
        due.is("hooked(1), turned: by place", x.hooked(1), 4);
        x.eat(2);
        due.is("hooked(4), off", x.hooked(4), Due.NONE);
        due.is("hooked(36): unknown first", x.hooked(36), Due.UNKNOWN);
        due.is("hooked(27)", x.hooked(27), 5);
        x = Due.told("y0;f0 1;f0 1;h0 0;");
        due.is("hooked(2): none reaches", x.hooked(2), Due.NONE);
        due.is("hooked(3): none reaches all", x.hooked(3), Due.NONE);
        x = Due.told(SEVEN + "h6 0;h0 0;h3 2;");
        due.is("hooked(64): the last place", x.hooked(64), 1);
        due.is("hooked(127)", x.hooked(127), 7);
        // a greater number of fewer hooks
        x = Due.told("y0;f0 1;f0 1;h0 0;h1 0;h0 1;");
        due.is("hooked(3): one hook", x.hooked(3), 4);
    }

    private static void gaps() {
        DayCords x = Due.told(SEVEN);
        due.is("gap(0), none off", x.gap(0), 0);
        due.is("gap(7), none off", x.gap(7), 0);
        due.is("gap(8)", x.gap(8), Due.OUTSIDE);
        due.is("gap(-1)", x.gap(-1), Due.OUTSIDE);
        Due.hang(x, "152");
        due.is("gap(0)", x.gap(0), 0b0000001);
        due.is("gap(1)", x.gap(1), 0b0011000);
        due.is("gap(2)", x.gap(2), 0);
        due.is("gap(3)", x.gap(3), 0b1011000);
        due.is("gap(4)", x.gap(4), Due.OUTSIDE);
        Due.hang(x, "");
        due.is("gap(0) of none on", x.gap(0), 127);
    }

    private static void ends() {
        endsOf("y0;f0 9;", 1009, 0);
        endsOf("y0;f0 3;f0 5;", 1002, 1);
        endsOf("y0;f0 5;f0 3;", 1002, 0);
        endsOf("y0;f0 5;f0 5;", 1000, 0);
        endsOf("y0;f0 1;f0 9;f0 1;", 993, 0);
        endsOf("y0;f0 2;f0 9;f0 1;", 994, 0);
        endsOf("y0;f0 1;f0 9;f0 2;", 994, 0);
        endsOf("y0;f0 8;f0 9;f0 3;f0 7;", 1005, 1);
        endsOf("y0;f0 1;f0 2;f0 3;f0 4;f0 5;f0 6;f0 7;", 1004, 1);
        endsOf("y0;f0 7;f0 6;f0 5;f0 4;f0 3;f0 2;f0 1;", 1004, 0);
        endsOf("y0;", 1000, Due.NONE);
        DayCords x = Due.told("y0;f0 3;f0 5;");
        x.rain(true);
        due.is("ends(0): wet ones are as heavy", x.ends(0), 1002);
        due.is("ends(2)", x.ends(2), Due.OUTSIDE);
        due.is("ends(-1)", x.ends(-1), Due.OUTSIDE);
    }

    private static void endsOf(String text, int more, int end) {
        DayCords x = Due.told(text);
        due.is("ends(0) of " + text, x.ends(0), more);
        due.is("ends(1) of " + text, x.ends(1), end);
    }

    private static void calm() {
        DayCords x = new DayCords();
        due.is("calm(0, 0)", x.calm(0, 0), 1000000000);
        due.is("calm(60, 100)", x.calm(60, 100), 1000000000);
        due.is("calm(1, 0)", x.calm(1, 0), 0);
        due.is("calm(1, 37)", x.calm(1, 37), 370000000);
        due.is("calm(5, 33): cut year by year", x.calm(5, 33), 3913539);
        due.is("calm(60, 99)", x.calm(60, 99), 547156620);
        due.is("calm(60, 1)", x.calm(60, 1), 0);
        due.is("calm(61, 0)", x.calm(61, 0), Due.OUTSIDE);
        due.is("calm(-1, 0)", x.calm(-1, 0), Due.OUTSIDE);
        due.is("calm(0, -1)", x.calm(0, -1), Due.OUTSIDE);
        due.is("calm(0, 101)", x.calm(0, 101), Due.OUTSIDE);
    }

    private static void nothingChanges() {
        DayCords x = Due.told(SEVEN + "w0;w0,0;h3 2;");
        Due.hang(x, "5203");
        x.seed(99);
        int deeds = x.told(19);
        x.turnings(0);
        x.turnings(1);
        x.loose(1);
        x.felt(50, 3);
        x.farthest(50);
        x.hooked(5);
        x.gap(1);
        x.ends(0);
        x.calm(3, 50);
        x.couldBe();
        x.next();
        x.judge();
        for (int what = 0; what < 20; what++) {
            x.told(what);
        }
        due.row("tried", x, "5203");
        due.is("deeds", x.told(19), deeds);
        due.is("seed", x.seed(0), 99);
    }
}
