/** Promises 10 to 18: turn, cut, eat, sew, rain, wind, year, drift, undo. */
public final class DeedsTest {
    private static final Due due = new Due();

    public static void main(String[] args) {
        turning();
        cutting();
        eating();
        sewing();
        raining();
        winds();
        years();
        fading();
        manyYears();
        drifting();
        undoing();
        refusedIsNoDeed();
        due.end();
    }

    private static void turning() {
        DayCords x = Due.told("y0;f0 1;f0 1;f0 1;f0 1;");
        due.is("turn(1)", x.turn(1), Due.OUTSIDE);
        due.is("turn(5)", x.turn(5), Due.OUTSIDE);
        due.is("turn(-1)", x.turn(-1), Due.OUTSIDE);
        due.is("turn(3)", x.turn(3), 2);
        due.row("turn(3)", x, "2103");
        due.is("turn(4)", x.turn(4), 3);
        due.row("turn(4)", x, "3012");
        due.is("turn(2)", x.turn(2), 0);
        due.row("turn(2)", x, "0312");
        x.eat(3);
        due.is("turn(4) of three", x.turn(4), Due.OUTSIDE);
        due.is("turn(2) without a cord", new DayCords().turn(2), Due.OUTSIDE);
    }

    private static void cutting() {
        DayCords x = Due.told("y0;f0 1;f0 1;f0 1;f0 1;f0 1;");
        due.is("cut(0)", x.cut(0), Due.OUTSIDE);
        due.is("cut(5)", x.cut(5), Due.OUTSIDE);
        due.is("cut(2)", x.cut(2), 2);
        due.row("cut(2)", x, "23401");
        due.is("cut(4)", x.cut(4), 1);
        due.row("cut(4)", x, "12340");
        due.is("cut(1)", x.cut(1), 2);
        due.row("cut(1)", x, "23401");
        due.is("cut(1) without a cord", new DayCords().cut(1), Due.OUTSIDE);
        due.is("cut(1) of one", Due.told("y0;f0 1;").cut(1), Due.OUTSIDE);
    }

    private static void eating() {
        DayCords x = Due.told("y0;f0 1;f0 1;f0 1;");
        x.rain(true);
        x.year(1);
        x.rain(true);
        due.is("eat(1)", x.eat(1), 1);
        due.row("eat(1)", x, "02");
        due.is("wet", x.told(10), 5);
        due.is("faded", x.flag(1, 3), 1);
        due.is("eat(1) again", x.eat(1), Due.NOT);
        due.is("eat(3)", x.eat(3), Due.UNKNOWN);
        due.is("eat(-1)", x.eat(-1), Due.UNKNOWN);
        due.is("eat(2)", x.eat(2), 1);
        due.is("eat(0)", x.eat(0), 0);
        due.row("all eaten", x, "");
        due.is("right", x.told(11), 1);
    }

    private static void sewing() {
        DayCords x = Due.told("y0;f0 1;f0 1;f0 1;");
        x.year(1);
        x.rain(true);
        x.eat(1);
        due.is("sew(1, 3)", x.sew(1, 3), Due.OUTSIDE);
        due.is("sew(1, -1)", x.sew(1, -1), Due.OUTSIDE);
        due.is("sew(0, 0), on", x.sew(0, 0), Due.NOT);
        due.is("sew(0, 3): outside first", x.sew(0, 3), Due.OUTSIDE);
        due.is("sew(3, 0)", x.sew(3, 0), Due.UNKNOWN);
        due.is("sew(3, 9): unknown first", x.sew(3, 9), Due.UNKNOWN);
        due.is("sew(1, 2)", x.sew(1, 2), 3);
        due.row("sew(1, 2)", x, "021");
        due.is("not wet", x.told(10), 5);
        due.is("faded", x.flag(1, 3), 0);
        due.is("sewn", x.flag(1, 4), 1);
        due.is("others are sewn not", x.flag(0, 4), 0);
        x.eat(2);
        due.is("sew(2, 0)", x.sew(2, 0), 3);
        due.row("sew(2, 0)", x, "201");
    }

    private static void raining() {
        DayCords x = Due.told("y0;f0 1;f0 1;f0 1;");
        due.is("rain(true)", x.rain(true), 0);
        due.is("rain(true)", x.rain(true), 3);
        x.eat(0);
        x.sew(0, 0);
        due.is("wet", x.told(10), 6);
        due.is("rain(true)", x.rain(true), 2);
        x.eat(1);
        due.is("rain(false)", x.rain(false), 2);
        due.is("dry", x.told(10), 0);
        due.is("rain(false)", x.rain(false), 0);
        due.is("rain without a cord", new DayCords().rain(false), Due.NOT);
    }

    private static void winds() {
        DayCords x = Due.told("y4;f0 1;");
        due.is("wind(9)", x.wind(9), 4);
        due.is("wind(0)", x.wind(0), 9);
        due.is("told(6)", x.told(6), 0);
        due.is("wind(10)", x.wind(10), Due.OUTSIDE);
        due.is("wind(-1)", x.wind(-1), Due.OUTSIDE);
        due.is("wind(3) without a cord", new DayCords().wind(3), Due.NOT);
        due.is("wind(10) without a cord", new DayCords().wind(10), Due.OUTSIDE);
    }

    private static void years() {
        DayCords x = Due.told("y4;f0 1;f0 9;");
        due.is("year(0)", x.year(0), Due.OUTSIDE);
        due.is("year(21)", x.year(21), Due.OUTSIDE);
        due.is("year(20)", x.year(20), 2);
        due.is("told(5)", x.told(5), 20);
        due.is("year(1) without a cord", new DayCords().year(1), Due.NOT);
        due.is("year(0) without a cord", new DayCords().year(0), Due.OUTSIDE);
        due.is("drift(0)", x.drift(0), Due.OUTSIDE);
        due.is("drift(21)", x.drift(21), Due.OUTSIDE);
        due.is("drift(1) without a cord", new DayCords().drift(1), Due.NOT);
        due.is("drift(21) without a cord", new DayCords().drift(21), Due.OUTSIDE);
    }

    private static void fading() {
        // a king's, washing, the blue one, a heavy petticoat, a light one
        DayCords x = Due.told("y3;f3 1;f4 3;f5 9;f2 9;f2 1;");
        x.rain(true);
        due.is("year(1)", x.year(1), 5);
        due.is("a king's", x.flag(0, 3), 1);
        due.is("wet washing", x.flag(1, 3), 1);
        due.is("the blue one", x.flag(2, 3), 2);
        due.is("a heavy petticoat", x.flag(3, 3), 1);
        due.is("a light petticoat, wet, just out", x.flag(4, 3), 2);
        due.is("dry", x.told(10), 0);
        due.is("year(1)", x.year(1), 5);
        due.is("dry washing", x.flag(1, 3), 3);
        due.is("year(17)", x.year(17), 5);
        due.is("38 of 40", x.flag(4, 3), 38);
        due.is("year(1): the light one goes at 40", x.year(1), 4);
        due.is("faded, off", x.flag(4, 3), 40);
        due.row("one petticoat", x, "0123");
        due.is("year(19)", x.year(19), 4);
        due.is("39 of 40", x.flag(3, 3), 39);
        due.is("off does not fade", x.flag(4, 3), 40);
        due.is("year(1)", x.year(1), 3);
        due.is("faded, off", x.flag(3, 3), 40);
        x.year(9);
        due.is("98", x.flag(2, 3), 98);
        x.year(1);
        due.is("99 at most", x.flag(2, 3), 99);
        due.is("told(5)", x.told(5), 50);
        x.year(20);
        x.year(20);
        x.year(20);
        due.is("a king's, 99 at most", x.flag(0, 3), 99);
        // all seven go at once
        x = Due.told("y9;f2 1;f2 2;f2 3;f2 4;f2 5;f2 6;f2 7;");
        due.is("year(19)", x.year(19), 7);
        due.is("year(1)", x.year(1), 0);
        due.is("undo(1)", x.undo(1), 19);
        due.row("all seven are back", x, "0123456");
        // from 39 by 2: 41
        x = Due.told("y1;f2 2;");
        x.year(1);
        x.wind(2);
        x.year(19);
        due.is("39", x.flag(0, 3), 39);
        due.is("eaten", x.year(1), 0);
        due.is("41", x.flag(0, 3), 41);
        due.is("sewn anew", x.sew(0, 0), 1);
        due.is("year(19)", x.year(19), 1);
        due.is("undo(1)", x.undo(1), 39);
    }

    private static void manyYears() {
        DayCords x = Due.told("y0;f0 1;");
        for (int i = 0; i < 450; i++) {
            x.year(20);
        }
        due.is("told(5)", x.told(5), 9000);
        due.is("drift(20) at 9000", x.drift(20), x.told(7));
        due.is("told(5)", x.told(5), 9020);
        due.is("year(1) above 9000", x.year(1), Due.FULL);
        due.is("drift(1) above 9000", x.drift(1), Due.FULL);
        due.is("year(21) above 9000", x.year(21), Due.OUTSIDE);
        due.is("undo(20)", x.undo(20), 9000);
        due.is("year(1)", x.year(1), x.told(7));
        due.is("year(1)", x.year(1), Due.FULL);
        Due.tell(x, "y0;");
        due.is("year(1) of a new cord", x.year(1), 0);
    }

    private static int seed;

    private static int draw(int n) {
        seed = (int) ((seed * 1103515245L + 12345L) % 2147483648L);
        return seed / 65536 % n;
    }

    /** One year by draws beside the program: what the first draw brings is looked for seed by seed. */
    private static void drifting() {
        boolean[] seen = new boolean[6];
        for (int s = 0; s < 60; s++) {
            DayCords x = Due.told("y2;f0 1;f0 9;f0 4;f0 9;");
            x.seed(s);
            seed = s;
            int lot = draw(6);
            seen[lot] = true;
            int wind = lot == 0 ? draw(10) : 2;
            int cut = lot == 2 ? draw(4) : 0;
            int eaten = lot == 3 ? draw(4) : -1;
            StringBuilder row = new StringBuilder("0123".substring(cut) + "0123".substring(0, cut));
            if (eaten >= 0) {
                row.deleteCharAt(eaten);
            }
            String at = "seed " + s + ", lot " + lot + ": ";
            due.is(at + "drift(1)", x.drift(1), eaten >= 0 ? 3 : 4);
            due.row(at, x, row.toString());
            due.is(at + "wind", x.told(6), wind);
            due.is(at + "wet", x.told(10), 0);
            boolean out = lot == 1 ? wind >= 3 : wind >= 1;
            due.is(at + "faded", x.flag(0, 3), eaten == 0 ? 0 : out ? 2 : 1);
            due.is(at + "years", x.told(5), 1);
            due.is(at + "undone", x.told(19), 1);
            due.is(at + "undo", x.undo(1), 0);
            due.row(at + "undo", x, "0123");
            due.is(at + "wind undone", x.told(6), 2);
            due.is(at + "the seed stays", x.seed(0), seed);
        }
        for (int lot = 0; lot < 6; lot++) {
            due.is("lot " + lot + " was drawn", seen[lot] ? 1 : 0, 1);
        }
        for (int s = 0; s < 60; s++) {
            driftOfFew(s, 0);
            driftOfFew(s, 1);
            driftOfFew(s, 2);
        }
    }

    /** No draw is made for a cut of fewer than two, or for an eaten one of none. */
    private static void driftOfFew(int s, int flags) {
        DayCords x = Due.told("y2;f0 1;f0 1;".substring(0, 3 + 5 * flags));
        x.seed(s);
        seed = s;
        int lot = draw(6);
        if (lot == 0) {
            draw(10);
        } else if (lot == 3 && flags >= 1 || lot == 2 && flags >= 2) {
            draw(flags);
        }
        due.is("seed " + s + " of " + flags, x.drift(1), lot == 3 ? Math.max(0, flags - 1) : flags);
        due.is("seed " + s + " of " + flags + " then", x.seed(0), seed);
    }

    private static void undoing() {
        DayCords x = Due.told("y3;f0 1;f0 2;f0 3;");
        due.is("undo(1) of none", x.undo(1), Due.NOT);
        due.is("undo(0)", x.undo(0), Due.OUTSIDE);
        due.is("undo(31)", x.undo(31), Due.OUTSIDE);
        due.is("undo without a cord", new DayCords().undo(1), Due.NOT);
        due.is("undo(0) without a cord", new DayCords().undo(0), Due.OUTSIDE);
        x.turn(3);
        x.cut(1);
        x.rain(true);
        x.eat(1);
        x.sew(1, 0);
        x.wind(8);
        x.year(2);
        due.is("told(19)", x.told(19), 8);
        due.is("undo(9)", x.undo(9), Due.NOT);
        due.is("undo(1)", x.undo(1), 1);
        due.is("undo(1)", x.undo(1), 0);
        due.is("faded", x.flag(0, 3), 0);
        due.is("wet", x.told(10), 0b101);
        due.is("wind", x.told(6), 8);
        due.is("undo(1)", x.undo(1), 0);
        due.is("wind", x.told(6), 3);
        due.is("sewn", x.flag(1, 4), 1);
        due.is("undo(1)", x.undo(1), 0);
        due.is("sewn", x.flag(1, 4), 0);
        due.is("undo(1)", x.undo(1), 0);
        due.is("wet", x.told(10), 0b111);
        due.row("undone", x, "102");
        due.is("undo(2)", x.undo(2), 0);
        due.is("wet", x.told(10), 0);
        due.row("undone", x, "210");
        due.is("told(19)", x.told(19), 1);
        x.cut(2);
        due.is("undo(2)", x.undo(2), 0);
        due.row("undone", x, "012");
        x.year(20);
        x.year(20);
        due.is("told(19): 30 are kept", x.told(19), 30);
        due.is("undo(30)", x.undo(30), 10);
        due.is("undo(1)", x.undo(1), Due.NOT);
        due.is("faded", x.flag(0, 3), 20);
        x.drift(7);
        due.is("undo(7)", x.undo(7), 10);
    }

    private static void refusedIsNoDeed() {
        DayCords x = Due.told("y3;f0 1;f0 2;f0 3;");
        x.turn(9);
        x.cut(0);
        x.eat(7);
        x.sew(0, 0);
        x.wind(10);
        x.year(0);
        x.drift(21);
        x.undo(1);
        due.is("told(19)", x.told(19), 0);
        // what changes nothing is a deed all the same
        x.rain(false);
        x.wind(3);
        due.is("told(19)", x.told(19), 2);
    }
}
