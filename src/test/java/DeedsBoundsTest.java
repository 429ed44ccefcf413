/** Each bound that section 2 and promises 10 to 17 name, on both sides: turn, cut, eat, sew, rain, wind, year, drift. */
public final class DeedsBoundsTest {
    private static final Due due = new Due();
    private static final String FOUR = "tell y4;f0 1;f1 2;f4 3;f5 4;";
    private static final String TWO = "tell y4;f0 1;f1 2;";
    private static final int[] FAR = {Integer.MIN_VALUE, -1000000001, 1000000, Integer.MAX_VALUE};

    public static void main(String[] args) {
        dryAndFreshAtFirst();
        outByWind();
        turnBounds();
        turnMoves();
        cutBounds();
        cutMoves();
        eatBounds();
        eatMoves();
        eatDriesButFadesNot();
        sewBounds();
        sewMoves();
        sewMakesFresh();
        rainCounts();
        rainWithoutCord();
        windBounds();
        yearBounds();
        yearWithoutCord();
        yearFull();
        yearFades();
        fadedAtMost();
        petticoats();
        yearDries();
        deedsOfNone();
        due.end();
    }

    private static void dryAndFreshAtFirst() {
        due.sentence("A FLAG is WET, or not (not at first), FADED by 0 (at first)");
        due.answers(Scenes.SEVEN, "told 10", 0);
        for (int f = 0; f < 7; f++) {
            due.answers(Scenes.SEVEN, "flag " + f + " 3", 0);
            due.answers(Scenes.SEVEN, "flag " + f + " 4", 0);
        }
    }

    /** From which WIND on a flag is out; 10: in none. */
    private static int outFrom(int kind, int heavy, boolean wet) {
        if (kind == 5) {
            return 1;
        }
        if (kind == 4 && wet) {
            return 10;
        }
        return wet ? heavy + 2 : heavy;
    }

    private static void outByWind() {
        due.sentence("It is OUT, if WIND is its HEAVY or more, and 2 more if it is WET; KIND 4 never, if it is WET; KIND 5 in any WIND of 1 or more");
        for (int kind = 0; kind <= 5; kind++) {
            for (int heavy = 1; heavy <= 9; heavy++) {
                for (int wind = 0; wind <= 9; wind++) {
                    String scene = "tell y" + wind + ";f" + kind + " " + heavy + ";";
                    due.answers(scene, "told 9", wind >= outFrom(kind, heavy, false) ? 1 : 0);
                    due.answers(scene + " | rain true", "told 9", wind >= outFrom(kind, heavy, true) ? 1 : 0);
                    due.answers(scene + " | rain true | rain false", "told 9", wind >= outFrom(kind, heavy, false) ? 1 : 0);
                }
            }
        }
        // the bounds once more by hand
        due.answers("tell y8;f0 9;", "told 9", 0);
        due.answers("tell y9;f0 9;", "told 9", 1);
        due.answers("tell y9;f0 7; | rain true", "told 9", 1);
        due.answers("tell y9;f0 8; | rain true", "told 9", 0);
        due.answers("tell y9;f4 1; | rain true", "told 9", 0);
        due.answers("tell y0;f5 1;", "told 9", 0);
        due.answers("tell y1;f5 9; | rain true", "told 9", 1);
    }

    private static void turnBounds() {
        due.sentence("10: TURNED by k (2 to as many as there are): the FLAG at PLACE 0 then. OUTSIDE.");
        for (int k = 2; k <= 4; k++) {
            due.answers(FOUR, "turn " + k, k - 1);
        }
        for (int k = 2; k <= 7; k++) {
            due.answers(Scenes.SEVEN, "turn " + k, k - 1);
        }
        due.refused(FOUR, "turn 5", Due.OUTSIDE);
        due.refused(FOUR + " | eat 0", "turn 4", Due.OUTSIDE);
        due.answers(FOUR + " | eat 0", "turn 3", 3);
        due.refused(TWO, "turn 3", Due.OUTSIDE);
        due.answers(TWO, "turn 2", 1);
        due.refused(TWO + " | eat 0", "turn 2", Due.OUTSIDE);
        for (String scene : Scenes.ALL) {
            due.refused(scene, "turn -1", Due.OUTSIDE);
            due.refused(scene, "turn 0", Due.OUTSIDE);
            due.refused(scene, "turn 1", Due.OUTSIDE);
            due.refused(scene, "turn 8", Due.OUTSIDE);
            for (int k : FAR) {
                due.refused(scene, "turn " + k, Due.OUTSIDE);
            }
        }
        for (String scene : new String[] {Scenes.NEW, Scenes.BARE, Scenes.ONE, Scenes.GONE}) {
            due.refused(scene, "turn 2", Due.OUTSIDE);
        }
    }

    private static void turnMoves() {
        due.sentence("TURNED by k: the first k FLAGS of THE CORD stand the other way round");
        String[] rows = {"1023456", "2103456", "3210456", "4321056", "5432106", "6543210"};
        for (int k = 2; k <= 7; k++) {
            due.row(Scenes.SEVEN + " | turn " + k, rows[k - 2]);
            due.row(Scenes.SEVEN + " | turn " + k + " | turn " + k, "0123456");
        }
        due.answers(FOUR + " | rain true | eat 0 | sew 0 0 | turn 4", "told 10", 14);
    }

    private static void cutBounds() {
        due.sentence("11: CUT at PLACE p (1 to as many as there are less 1): the FLAG at PLACE 0 then. OUTSIDE.");
        for (int p = 1; p <= 3; p++) {
            due.answers(FOUR, "cut " + p, p);
        }
        for (int p = 1; p <= 6; p++) {
            due.answers(Scenes.SEVEN, "cut " + p, p);
        }
        due.refused(FOUR, "cut 4", Due.OUTSIDE);
        due.refused(FOUR + " | eat 0", "cut 3", Due.OUTSIDE);
        due.answers(FOUR + " | eat 0", "cut 2", 3);
        due.answers(TWO, "cut 1", 1);
        due.refused(TWO, "cut 2", Due.OUTSIDE);
        due.refused(TWO + " | eat 1", "cut 1", Due.OUTSIDE);
        for (String scene : Scenes.ALL) {
            due.refused(scene, "cut -1", Due.OUTSIDE);
            due.refused(scene, "cut 0", Due.OUTSIDE);
            due.refused(scene, "cut 7", Due.OUTSIDE);
            for (int p : FAR) {
                due.refused(scene, "cut " + p, Due.OUTSIDE);
            }
        }
        for (String scene : new String[] {Scenes.NEW, Scenes.BARE, Scenes.ONE, Scenes.GONE}) {
            due.refused(scene, "cut 1", Due.OUTSIDE);
        }
    }

    private static void cutMoves() {
        due.sentence("CUT at a PLACE: the part from there on comes ahead of the part before it");
        String row = "0123456";
        for (int p = 1; p <= 6; p++) {
            due.row(Scenes.SEVEN + " | cut " + p, row.substring(p) + row.substring(0, p));
            due.row(Scenes.SEVEN + " | cut " + p + " | cut " + (7 - p), row);
        }
        due.row(TWO + " | cut 1", "10");
    }

    private static void eatBounds() {
        due.sentence("12: EATEN: the PLACE where it was. UNKNOWN, NOT: it is off.");
        for (int f = 0; f < 7; f++) {
            due.answers(Scenes.SEVEN, "eat " + f, f);
            due.answers(Scenes.SEVEN + " | turn 7", "eat " + f, 6 - f);
            due.refused(Scenes.SEVEN + " | eat " + f, "eat " + f, Due.NOT);
        }
        due.refused(FOUR, "eat 4", Due.UNKNOWN);
        due.answers(FOUR, "eat 3", 3);
        due.answers(Scenes.ONE, "eat 0", 0);
        due.refused(Scenes.ONE + " | eat 0", "eat 0", Due.NOT);
        due.refused(Scenes.ONE, "eat 1", Due.UNKNOWN);
        // a petticoat that a year has eaten, and one that came back
        due.refused(Scenes.ONE + " | year 20", "eat 0", Due.NOT);
        due.answers(Scenes.ONE + " | eat 0 | sew 0 0", "eat 0", 0);
        due.answers(Scenes.ONE + " | eat 0 | undo 1", "eat 0", 0);
        for (String scene : Scenes.ALL) {
            due.refused(scene, "eat -1", Due.UNKNOWN);
            due.refused(scene, "eat 7", Due.UNKNOWN);
            for (int f : FAR) {
                due.refused(scene, "eat " + f, Due.UNKNOWN);
            }
        }
        for (String scene : new String[] {Scenes.NEW, Scenes.BARE, Scenes.GONE}) {
            due.refused(scene, "eat 0", Due.UNKNOWN);
        }
    }

    private static void eatMoves() {
        due.sentence("EATEN: a FLAG is off THE CORD .. those behind one PLACE ahead");
        String row = "0123456";
        for (int f = 0; f < 7; f++) {
            due.row(Scenes.SEVEN + " | eat " + f, row.replace("" + f, ""));
        }
        due.row(Scenes.ONE + " | eat 0", "");
        due.row(Scenes.SEVEN + " | eat 0 | eat 1 | eat 2 | eat 3 | eat 4 | eat 5 | eat 6", "");
    }

    private static void eatDriesButFadesNot() {
        due.sentence("EATEN: .. no more WET (FADED as it was)");
        String scene = "tell y0;f0 1;f0 1;f0 1; | year 9 | rain true";
        for (int f = 0; f < 3; f++) {
            due.answers(scene + " | eat " + f, "told 10", 7 & ~(1 << f));
            due.answers(scene + " | eat " + f, "flag " + f + " 3", 9);
            due.answers(scene + " | eat " + f, "flag " + f + " 4", 0);
            due.answers(scene + " | eat " + f + " | year 3", "flag " + f + " 3", 9);
            due.answers(scene + " | eat " + f + " | rain true", "told 10", 7 & ~(1 << f));
        }
    }

    private static void sewBounds() {
        due.sentence("13: SEWN at PLACE p (0 to as many as there are): how many there are then. UNKNOWN, OUTSIDE, NOT: it is on.");
        for (int p = 0; p <= 3; p++) {
            due.answers(FOUR + " | eat 1", "sew 1 " + p, 4);
        }
        due.refused(FOUR + " | eat 1", "sew 1 4", Due.OUTSIDE);
        due.refused(FOUR + " | eat 1", "sew 1 -1", Due.OUTSIDE);
        for (int p : FAR) {
            due.refused(FOUR + " | eat 1", "sew 1 " + p, Due.OUTSIDE);
            due.refused(FOUR + " | eat 1", "sew " + p + " 0", Due.UNKNOWN);
        }
        due.answers(Scenes.ONE + " | eat 0", "sew 0 0", 1);
        due.refused(Scenes.ONE + " | eat 0", "sew 0 1", Due.OUTSIDE);
        due.refused(Scenes.ONE, "sew 0 0", Due.NOT);
        due.refused(Scenes.ONE, "sew 0 1", Due.NOT);
        due.refused(Scenes.ONE, "sew 0 2", Due.OUTSIDE);
        for (int f = 0; f < 7; f++) {
            due.answers(Scenes.SEVEN + " | eat " + f, "sew " + f + " 6", 7);
            due.refused(Scenes.SEVEN + " | eat " + f, "sew " + f + " 7", Due.OUTSIDE);
            due.refused(Scenes.SEVEN, "sew " + f + " 0", Due.NOT);
            due.refused(Scenes.SEVEN, "sew " + f + " 7", Due.NOT);
            due.refused(Scenes.SEVEN, "sew " + f + " 8", Due.OUTSIDE);
        }
        due.refused(FOUR, "sew 4 0", Due.UNKNOWN);
        due.refused(FOUR + " | eat 0", "sew -1 0", Due.UNKNOWN);
        for (String scene : new String[] {Scenes.NEW, Scenes.BARE, Scenes.GONE}) {
            due.refused(scene, "sew 0 0", Due.UNKNOWN);
        }
    }

    private static void sewMoves() {
        due.sentence("SEWN: a FLAG that is off comes to a PLACE (0 to as many as there are)");
        String rest = "023";
        for (int p = 0; p <= 3; p++) {
            due.row(FOUR + " | eat 1 | sew 1 " + p, rest.substring(0, p) + "1" + rest.substring(p));
        }
        due.row(Scenes.SEVEN + " | eat 0 | sew 0 6", "1234560");
        due.row(Scenes.SEVEN + " | eat 6 | sew 6 0", "6012345");
        due.row(Scenes.ONE + " | eat 0 | sew 0 0", "0");
    }

    private static void sewMakesFresh() {
        due.sentence("SEWN: .. not WET, FADED by 0; it was SEWN once more");
        String scene = "tell y0;f0 1;f0 1;f0 1; | year 9 | rain true | eat 1 | sew 1 1";
        due.answers(scene, "told 10", 5);
        due.answers(scene, "flag 1 3", 0);
        due.answers(scene, "flag 0 3", 9);
        due.answers(scene, "flag 1 4", 1);
        due.answers(scene, "flag 0 4", 0);
        due.answers(scene, "flag 2 4", 0);
        due.answers(scene + " | year 1", "flag 1 3", 1);
        due.answers(scene + " | eat 1", "flag 1 4", 1);
        due.answers(scene + " | eat 1 | sew 1 0", "flag 1 4", 2);
        due.answers(scene + " | undo 1", "flag 1 4", 0);
        due.answers(scene + " | undo 1", "flag 1 3", 9);
    }

    private static void rainCounts() {
        due.sentence("14: RAIN (falls), or DRIED: how many WET ones there were.");
        due.answers(Scenes.BARE, "rain true", 0);
        due.answers(Scenes.BARE + " | rain true", "rain true", 0);
        due.answers(Scenes.ONE, "rain true", 0);
        due.answers(Scenes.ONE + " | rain true", "rain true", 1);
        due.answers(Scenes.ONE + " | rain true", "rain false", 1);
        due.answers(Scenes.ONE + " | rain true | rain false", "rain false", 0);
        due.answers(Scenes.SEVEN, "rain false", 0);
        due.answers(Scenes.SEVEN + " | rain true", "rain false", 7);
        due.answers(Scenes.SEVEN + " | rain true | eat 3", "rain true", 6);
        due.answers(Scenes.SEVEN + " | rain true | eat 3 | sew 3 3", "rain true", 6);
        due.answers(Scenes.SEVEN + " | rain true | eat 3 | sew 3 3 | rain true", "rain true", 7);
        due.sentence("RAIN: all on THE CORD are WET; DRIED: none is");
        due.answers(Scenes.SEVEN + " | eat 3 | rain true", "told 10", 119);
        due.answers(Scenes.SEVEN + " | eat 3 | rain true | sew 3 3", "told 10", 119);
        due.answers(Scenes.SEVEN + " | rain true | rain false", "told 10", 0);
    }

    private static void rainWithoutCord() {
        due.sentence("14: NOT: no CORD.");
        for (String scene : Scenes.WITHOUT_CORD) {
            due.refused(scene, "rain true", Due.NOT);
            due.refused(scene, "rain false", Due.NOT);
        }
        due.refused("tell y10;", "rain true", Due.NOT);
        due.refused("tell  ", "rain true", Due.NOT);
    }

    private static void windBounds() {
        due.sentence("15: WIND (0 .. 9): what it was. OUTSIDE, NOT: no CORD.");
        for (int w = 0; w <= 9; w++) {
            due.answers("tell y" + w + ";", "wind " + (9 - w), w);
            due.answers("tell y4; | wind " + w, "wind 0", w);
            due.answers("tell y4; | wind " + w, "told 6", w);
            for (String scene : Scenes.WITHOUT_CORD) {
                due.refused(scene, "wind " + w, Due.NOT);
            }
        }
        for (String scene : Scenes.ALL) {
            due.refused(scene, "wind -1", Due.OUTSIDE);
            due.refused(scene, "wind 10", Due.OUTSIDE);
            for (int w : FAR) {
                due.refused(scene, "wind " + w, Due.OUTSIDE);
            }
        }
    }

    private static void yearBounds() {
        due.sentence("16, 17: n YEARS (1 .. 20): FLAGS on THE CORD. OUTSIDE");
        for (String call : new String[] {"year ", "drift "}) {
            for (String scene : Scenes.ALL) {
                due.refused(scene, call + "-1", Due.OUTSIDE);
                due.refused(scene, call + "0", Due.OUTSIDE);
                due.refused(scene, call + "21", Due.OUTSIDE);
                for (int n : FAR) {
                    due.refused(scene, call + n, Due.OUTSIDE);
                }
            }
            for (int n = 1; n <= 20; n++) {
                due.answers(Scenes.BARE, call + n, 0);
                due.answers(Scenes.BARE + " | " + call + n, "told 5", n);
                due.answers(Scenes.BARE + " | " + call + n, "told 19", n);
            }
        }
        due.answers(FOUR, "year 1", 4);
        due.answers(FOUR + " | eat 0", "year 20", 3);
        due.answers("tell y0;f0 1;", "year 20", 1);
    }

    private static void yearWithoutCord() {
        due.sentence("16, 17: NOT: no CORD");
        for (String scene : Scenes.WITHOUT_CORD) {
            due.refused(scene, "year 1", Due.NOT);
            due.refused(scene, "year 20", Due.NOT);
            due.refused(scene, "drift 1", Due.NOT);
            due.refused(scene, "drift 20", Due.NOT);
        }
    }

    private static void yearFull() {
        due.sentence("16, 17: FULL: YEARS are above 9000.");
        for (String call : new String[] {"year ", "drift "}) {
            due.answers(Scenes.LATE, call + "1", Calls.ask(Calls.scene(Scenes.LATE + " | " + call + "1"), "told 7"));
            due.answers(Scenes.LATE + " | " + call + "1", "told 5", 9001);
            due.answers(Scenes.LATE + " | " + call + "20", "told 5", 9020);
            due.answers(Scenes.LATE + " | undo 1 | " + call + "20", "told 5", 9019);
            due.refused(Scenes.TOO_LATE, call + "1", Due.FULL);
            due.refused(Scenes.TOO_LATE, call + "20", Due.FULL);
            due.refused(Scenes.LATE + " | year 20", call + "1", Due.FULL);
            due.refused(Scenes.LATE + " | drift 20", call + "1", Due.FULL);
            due.answers(Scenes.TOO_LATE + " | undo 1 | " + call + "1", "told 5", 9001);
            due.answers(Scenes.TOO_LATE + " | tell y0; | " + call + "1", "told 5", 1);
        }
        due.answers(Scenes.LATE, "year 1", 1);
        due.answers(Scenes.TOO_LATE, "wind 4", 9);
        due.answers(Scenes.TOO_LATE, "eat 0", 0);
    }

    private static void yearFades() {
        due.sentence("A YEAR: each FLAG on THE CORD is 1 more FADED, 2 if it is OUT and not of KIND 3");
        for (int kind = 0; kind <= 5; kind++) {
            for (int wind = 0; wind <= 9; wind++) {
                String scene = "tell y" + wind + ";f" + kind + " 5;";
                int dry = wind >= outFrom(kind, 5, false) && kind != 3 ? 2 : 1;
                int wet = wind >= outFrom(kind, 5, true) && kind != 3 ? 2 : 1;
                due.answers(scene + " | year 1", "flag 0 3", dry);
                due.answers(scene + " | rain true | year 1", "flag 0 3", wet);
                due.answers(scene + " | rain true | year 2", "flag 0 3", wet + dry);
                due.answers(scene + " | eat 0 | year 1", "flag 0 3", 0);
            }
        }
        due.sentence("YEARS are one more");
        due.answers(Scenes.BARE + " | year 1", "told 5", 1);
        due.answers(Scenes.BARE + " | year 1 | year 1", "told 5", 2);
    }

    private static void fadedAtMost() {
        due.sentence("99 at most");
        for (int kind : new int[] {0, 1, 3, 4, 5}) {
            String calm = "tell y0;f" + kind + " 1; | 4 x year 20";
            due.answers(calm + " | year 17", "flag 0 3", 97);
            due.answers(calm + " | year 18", "flag 0 3", 98);
            due.answers(calm + " | year 19", "flag 0 3", 99);
            due.answers(calm + " | year 20", "flag 0 3", 99);
            due.answers(calm + " | year 17 | wind 9 | year 1", "flag 0 3", kind == 3 ? 98 : 99);
            due.answers(calm + " | year 18 | wind 9 | year 1", "flag 0 3", 99);
            due.answers(calm + " | year 19 | wind 9 | year 1", "flag 0 3", 99);
            due.answers(calm + " | year 20 | year 20", "told 7", 1);
        }
    }

    private static void petticoats() {
        due.sentence("one of KIND 2 (a petticoat) that comes to 40 or more so is EATEN");
        String calm = "tell y0;f2 1; | year 20";
        due.answers(calm + " | year 18", "year 1", 1);
        due.answers(calm + " | year 19", "flag 0 3", 39);
        due.answers(calm + " | year 19", "year 1", 0);
        due.answers(calm + " | year 20", "flag 0 3", 40);
        due.answers(calm + " | year 20", "flag 0 2", Due.NONE);
        due.answers(calm + " | year 20", "flag 0 4", 0);
        due.answers(calm + " | year 18 | wind 9", "year 1", 0);
        due.answers(calm + " | year 18 | wind 9 | year 1", "flag 0 3", 40);
        due.answers(calm + " | year 19 | wind 9", "year 1", 0);
        due.answers(calm + " | year 19 | wind 9 | year 1", "flag 0 3", 41);
        due.answers(calm + " | year 17 | wind 9", "year 1", 1);
        due.answers("tell y9;f2 1;", "year 19", 1);
        due.answers("tell y9;f2 1;", "year 20", 0);
        // off, it fades no more; sewn, it begins anew
        due.answers(calm + " | year 20 | year 20", "flag 0 3", 40);
        due.answers(calm + " | year 20 | sew 0 0 | year 20", "year 19", 1);
        due.answers(calm + " | year 20 | sew 0 0 | year 20", "year 20", 0);
        due.answers(calm + " | year 20 | undo 1", "flag 0 3", 39);
        // by draws too
        due.answers("tell y0;f2 1; | year 20 | year 19 | seed 1 | drift 1", "told 7", 0);
        for (int kind : new int[] {0, 1, 3, 4, 5}) {
            due.answers("tell y0;f" + kind + " 1; | year 20 | year 19", "year 20", 1);
        }
        // none, some, all of the flags at once; those behind one PLACE ahead each
        due.row("tell y9;f2 1;f2 1;f0 1;f2 1;f0 1;f2 1;f2 1; | year 19", "0123456");
        due.row("tell y9;f2 1;f2 1;f0 1;f2 1;f0 1;f2 1;f2 1; | year 20", "24");
        due.row("tell y9;" + "f2 1;".repeat(7) + " | year 20", "");
        due.row("tell y9;f2 1;f2 9;f2 1; | year 1 | wind 8 | year 19", "1");
    }

    private static void yearDries() {
        due.sentence("nothing is WET then");
        due.answers(Scenes.SEVEN + " | rain true | year 1", "told 10", 0);
        due.answers(Scenes.SEVEN + " | rain true | year 1", "rain true", 0);
        due.answers(Scenes.SEVEN + " | rain true | year 1 | undo 1", "told 10", 127);
        for (int seed = 0; seed < 20; seed++) {
            due.answers(Scenes.SEVEN + " | seed " + seed + " | rain true | drift 1", "told 10", 0);
        }
    }

    private static void deedsOfNone() {
        due.sentence("THE CORD has FLAGS at PLACES 0 on (none, too)");
        String none = Scenes.ONE + " | eat 0";
        due.answers(none, "rain true", 0);
        due.answers(none, "year 20", 0);
        due.answers(none + " | rain true | year 20", "told 10", 0);
        due.answers(none + " | year 20", "flag 0 3", 0);
        due.refused(none, "turn 2", Due.OUTSIDE);
        due.refused(none, "turn 0", Due.OUTSIDE);
        due.refused(none, "cut 0", Due.OUTSIDE);
        due.refused(none, "cut 1", Due.OUTSIDE);
        due.answers(none, "told 9", 0);
        due.answers(none, "told 0", 1);
    }
}
