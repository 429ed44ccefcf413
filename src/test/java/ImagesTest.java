/** Promises 33 to 35: seed, keep, goBack. */
public final class ImagesTest {
    private static final Due due = new Due();

    public static void main(String[] args) {
        seeds();
        images();
        withoutCord();
        due.end();
    }

    private static void seeds() {
        DayCords x = new DayCords();
        due.is("seed(MAX)", x.seed(Integer.MAX_VALUE), 0);
        due.is("seed(-1)", x.seed(-1), Due.OUTSIDE);
        due.is("seed(MIN)", x.seed(Integer.MIN_VALUE), Due.OUTSIDE);
        due.is("seed(0)", x.seed(0), Integer.MAX_VALUE);
        due.is("seed(3)", x.seed(3), 0);
        due.is("cord()", Due.tell(x, "y0;"), 0);
        due.is("the seed stays", x.seed(3), 3);
        x.drift(1);
        due.is("one draw of 3", x.seed(0), (int) ((3 * 1103515245L + 12345) % 2147483648L));
    }

    private static void images() {
        DayCords x = Due.told("y3;f0 1;f0 2;f2 3;");
        due.is("keep(2)", x.keep(2), Due.UNKNOWN);
        due.is("keep(-1)", x.keep(-1), Due.UNKNOWN);
        due.is("goBack(2)", x.goBack(2), Due.UNKNOWN);
        due.is("goBack(-1)", x.goBack(-1), Due.UNKNOWN);
        due.is("goBack(0)", x.goBack(0), Due.NOT);
        x.seed(11);
        x.turn(3);
        x.year(2);
        x.eat(1);
        x.sew(1, 0);
        x.rain(true);
        x.wind(7);
        due.is("keep(0)", x.keep(0), 1);
        due.is("nothing to undo", x.told(19), 0);
        due.is("goBack(1)", x.goBack(1), Due.NOT);
        x.seed(22);
        x.drift(20);
        x.drift(20);
        due.is("keep(1)", x.keep(1), 1);
        int seed = x.seed(0);
        String row = Due.row(x);
        x.year(1);
        due.is("told(19)", x.told(19), 1);
        due.is("goBack(0)", x.goBack(0), 1);
        due.row("image 0", x, "120");
        due.is("nothing to undo", x.undo(1), Due.NOT);
        due.is("years", x.told(5), 2);
        due.is("wind", x.told(6), 7);
        due.is("wet", x.told(10), 7);
        due.is("faded", x.flag(0, 3), 4);
        due.is("sewn", x.flag(1, 4), 1);
        due.is("seed", x.seed(33), 11);
        due.is("goBack(1)", x.goBack(1), 1);
        due.row("image 1", x, row);
        due.is("years", x.told(5), 42);
        due.is("seed", x.seed(0), seed);
        due.is("goBack(0) again", x.goBack(0), 1);
        due.row("image 0 again", x, "120");
        x.eat(2);
        x.keep(0);
        x.sew(2, 2);
        due.is("goBack(0) kept anew", x.goBack(0), 1);
        due.row("image 0 kept anew", x, "10");
    }

    private static void withoutCord() {
        DayCords x = new DayCords();
        due.is("goBack(0)", x.goBack(0), Due.NOT);
        x.seed(5);
        due.is("keep(0)", x.keep(0), 1);
        x.seed(6);
        due.is("goBack(0)", x.goBack(0), 1);
        due.is("seed", x.seed(0), 5);
        due.is("told(0)", x.told(0), 0);
    }
}
