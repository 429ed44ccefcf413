/** Each bound that section 3 names of what is tried, and promises 19 to 26, on both sides. */
public final class TriedBoundsTest {
    private static final Due due = new Due();
    private static final String SEVEN = "tell y0;f0 1;f0 2;f0 3;f0 4;f0 5;f0 6;f0 7;";
    private static final String HEAVIEST = "tell y0;" + "f0 9;".repeat(7);
    private static final String NONE_ON = Scenes.ONE + " | eat 0";
    private static final int[] FAR = {Integer.MIN_VALUE, -1000000001, 1000000, Integer.MAX_VALUE};

    private static final String[] TRIED = {"turnings 0", "turnings 1", "loose 0", "loose 1", "felt 50 7", "farthest 50", "hooked 0", "hooked 1",
        "hooked 127", "gap 0", "ends 0", "ends 1", "calm 60 50", "told 13", "told 14", "told 15", "told 16"};

    public static void main(String[] args) {
        whatBounds();
        turningsOfFew();
        turningsOfSeven();
        looseOfFew();
        looseOfSeven();
        feltPull();
        feltPlace();
        feltWet();
        feltAtLeast();
        farthestPull();
        farthestPlace();
        hookedUnknown();
        hookedNone();
        hookedFewest();
        gapPlace();
        gapFits();
        endsOfFew();
        endsOfSeven();
        calmYears();
        calmOdds();
        calmIsCut();
        triedChangesNothing();
        triedBeforeOrNot();
        due.end();
    }

    /** The scene that hangs these flags of SEVEN in this order. */
    private static String hung(String row) {
        StringBuilder scene = new StringBuilder(SEVEN);
        for (int f = 0; f < 7; f++) {
            scene.append(" | eat ").append(f);
        }
        for (int p = 0; p < row.length(); p++) {
            scene.append(" | sew ").append(row.charAt(p)).append(' ').append(p);
        }
        return scene.toString();
    }

    private static void whatBounds() {
        due.sentence("19, 20, 25: what = 0, 1 .. OUTSIDE.");
        for (String call : new String[] {"turnings ", "loose ", "ends "}) {
            for (String scene : Scenes.ALL) {
                due.refused(scene, call + "-1", Due.OUTSIDE);
                due.refused(scene, call + "2", Due.OUTSIDE);
                for (int what : FAR) {
                    due.refused(scene, call + what, Due.OUTSIDE);
                }
            }
        }
    }

    private static void turnings(String row, int many, int first) {
        due.answers(hung(row), "turnings 0", many);
        due.answers(hung(row), "turnings 1", first);
    }

    private static void turningsOfFew() {
        due.sentence("TURNS: how many; the first k of such a row (the least; NONE: none is needed)");
        for (String scene : new String[] {Scenes.NEW, Scenes.BARE, Scenes.ONE, NONE_ON, Scenes.SEVEN, Scenes.GONE}) {
            due.answers(scene, "turnings 0", 0);
            due.answers(scene, "turnings 1", Due.NONE);
        }
        turnings("6", 0, Due.NONE);
        turnings("06", 0, Due.NONE);
        turnings("60", 1, 2);
        turnings("012", 0, Due.NONE);
        turnings("102", 1, 2);
        turnings("210", 1, 3);
        turnings("120", 2, 2);
        turnings("201", 2, 3);
        turnings("021", 3, 2);
    }

    private static void turningsOfSeven() {
        due.sentence("TURNS: the fewest TURNINGS by which it is RIGHT (of seven)");
        turnings("0123456", 0, Due.NONE);
        for (int k = 2; k <= 7; k++) {
            due.answers(SEVEN + " | turn " + k, "turnings 0", 1);
            due.answers(SEVEN + " | turn " + k, "turnings 1", k);
        }
        // no order of seven needs more than eight
        turnings("3051426", 6, 4);
        turnings("0264153", 8, 2);
        turnings("6204153", 8, 2);
    }

    private static void loose(String row, int many, int which) {
        due.answers(hung(row), "loose 0", many);
        due.answers(hung(row), "loose 1", which);
    }

    private static void looseOfFew() {
        due.sentence("LOOSE: the fewest FLAGS to be EATEN so that it is RIGHT: how many; which");
        for (String scene : new String[] {Scenes.NEW, Scenes.BARE, Scenes.ONE, NONE_ON, Scenes.SEVEN, Scenes.GONE}) {
            due.answers(scene, "loose 0", 0);
            due.answers(scene, "loose 1", 0);
        }
        loose("6", 0, 0);
        loose("06", 0, 0);
        loose("60", 1, 1);
        loose("65", 1, 32);
        loose("120", 1, 1);
        loose("201", 1, 4);
    }

    private static void looseOfSeven() {
        due.sentence("LOOSE: (a SET of FLAGS; of like ones the least)");
        loose("6543210", 6, 63);
        loose("1234560", 1, 1);
        loose("6012345", 1, 64);
        loose("1032546", 3, 21);
        loose("0123465", 1, 32);
        loose("4560123", 3, 112);
        loose("3456012", 3, 7);
        loose("2103654", 4, 51);
    }

    private static void feltPull() {
        due.sentence("21: FELT: a pull of s (0 .. 99) .. OUTSIDE.");
        for (String scene : Scenes.ALL) {
            due.answers(scene, "felt 0 0", 0);
            due.answers(scene, "felt 99 0", 99);
            due.answers(scene, "felt 0 7", 0);
            due.refused(scene, "felt -1 0", Due.OUTSIDE);
            due.refused(scene, "felt 100 0", Due.OUTSIDE);
            for (int s : FAR) {
                due.refused(scene, "felt " + s + " 0", Due.OUTSIDE);
                due.refused(scene, "felt 9 " + s, Due.OUTSIDE);
            }
        }
    }

    private static void feltPlace() {
        due.sentence("21: FELT (p 0 .. 7): s less HEAVY of all FLAGS ahead of p");
        int[] felt = {50, 49, 47, 44, 40, 35, 29, 22};
        for (int p = 0; p <= 7; p++) {
            due.answers(SEVEN, "felt 50 " + p, felt[p]);
            due.answers(SEVEN + " | eat 6 | eat 5 | eat 4", "felt 50 " + p, felt[Math.min(p, 4)]);
            due.answers("", "felt 50 " + p, 50);
            due.answers(Scenes.BARE, "felt 50 " + p, 50);
            due.answers(Scenes.ONE, "felt 50 " + p, p == 0 ? 50 : 46);
        }
        for (String scene : Scenes.ALL) {
            due.refused(scene, "felt 50 -1", Due.OUTSIDE);
            due.refused(scene, "felt 50 8", Due.OUTSIDE);
        }
    }

    private static void feltWet() {
        due.sentence("FELT: WET ones twice");
        int[] felt = {99, 97, 93, 87, 79, 69, 57, 43};
        int[] oneDry = {99, 97, 93, 90, 82, 72, 60, 46};
        for (int p = 0; p <= 7; p++) {
            due.answers(SEVEN + " | rain true", "felt 99 " + p, felt[p]);
            due.answers(SEVEN + " | rain true | eat 2 | sew 2 2", "felt 99 " + p, oneDry[p]);
        }
    }

    private static void feltAtLeast() {
        due.sentence("FELT: (0 at least)");
        due.answers("tell y0;f0 5;", "felt 6 1", 1);
        due.answers("tell y0;f0 5;", "felt 5 1", 0);
        due.answers("tell y0;f0 5;", "felt 4 1", 0);
        due.answers("tell y0;f0 5; | rain true", "felt 11 1", 1);
        due.answers("tell y0;f0 5; | rain true", "felt 10 1", 0);
        due.answers("tell y0;f0 5; | rain true", "felt 9 1", 0);
        due.answers(HEAVIEST, "felt 99 7", 36);
        due.answers(HEAVIEST + " | rain true", "felt 99 5", 9);
        due.answers(HEAVIEST + " | rain true", "felt 99 6", 0);
        due.answers(HEAVIEST + " | rain true", "felt 99 7", 0);
        due.answers(HEAVIEST + " | rain true", "felt 0 7", 0);
    }

    private static void farthestPull() {
        due.sentence("22: FARTHEST (s 0 .. 99); NONE. OUTSIDE.");
        for (String scene : Scenes.ALL) {
            due.answers(scene, "farthest 0", Due.NONE);
            due.refused(scene, "farthest -1", Due.OUTSIDE);
            due.refused(scene, "farthest 100", Due.OUTSIDE);
            for (int s : FAR) {
                due.refused(scene, "farthest " + s, Due.OUTSIDE);
            }
        }
        for (String scene : new String[] {Scenes.NEW, Scenes.BARE, NONE_ON, Scenes.GONE}) {
            due.answers(scene, "farthest 1", Due.NONE);
            due.answers(scene, "farthest 99", Due.NONE);
        }
    }

    private static void farthestPlace() {
        due.sentence("FARTHEST: the last PLACE with a FLAG at which a pull of s is felt by 1 or more");
        int[] from = {1, 2, 4, 7, 11, 16, 22};
        for (int p = 0; p < 7; p++) {
            due.answers(SEVEN, "farthest " + from[p], p);
            due.answers(SEVEN, "farthest " + (from[p] - 1), p - 1);
            due.answers(SEVEN + " | rain true", "farthest " + (2 * from[p] - 1), p);
            due.answers(SEVEN + " | rain true", "farthest " + (2 * from[p] - 2), p - 1);
        }
        due.answers(SEVEN, "farthest 99", 6);
        due.answers(Scenes.ONE, "farthest 1", 0);
        due.answers(Scenes.ONE, "farthest 99", 0);
        due.answers(HEAVIEST, "farthest 99", 6);
        due.answers(HEAVIEST + " | rain true", "farthest 99", 5);
    }

    private static void hookedUnknown() {
        due.sentence("23: UNKNOWN (bits of such)");
        for (int n = 0; n <= 7; n++) {
            String scene = "tell y0;" + "f0 1;".repeat(n) + "h3 6;";
            due.answers(scene, "hooked " + ((1 << n) - 1), n == 0 ? 0 : 1);
            due.refused(scene, "hooked " + (1 << n), Due.UNKNOWN);
            due.refused(scene, "hooked " + ((1 << n + 1) - 1), Due.UNKNOWN);
            due.refused(scene, "hooked -1", Due.UNKNOWN);
            due.refused(scene, "hooked -2147483648", Due.UNKNOWN);
            due.refused(scene, "hooked 1073741824", Due.UNKNOWN);
        }
        for (String scene : Scenes.WITHOUT_CORD) {
            due.answers(scene, "hooked 0", 0);
            due.refused(scene, "hooked 1", Due.UNKNOWN);
        }
        due.sentence("23: (UNKNOWN ahead of one that is off)");
        due.refused("tell y0;f0 1;f0 1;h0 6; | eat 0", "hooked 5", Due.UNKNOWN);
    }

    private static void hookedNone() {
        due.sentence("23: HOOKED; NONE (one that is off, too).");
        due.answers("tell y0;f0 1;f0 1;", "hooked 0", 0);
        due.answers("tell y0;f0 1;f0 1;", "hooked 1", Due.NONE);
        due.answers("tell y0;f0 1;f0 1;h0 0;", "hooked 1", 1);
        due.answers("tell y0;f0 1;f0 1;h0 0;", "hooked 2", Due.NONE);
        due.answers("tell y0;f0 1;f0 1;h0 0;", "hooked 3", Due.NONE);
        due.answers("tell y0;f0 1;f0 1;h0 1;", "hooked 3", 1);
        due.answers("tell y0;f0 1;f0 1;h3 1;", "hooked 2", Due.NONE);
        due.answers("tell y0;f0 1;f0 1;h3 2;", "hooked 2", 1);
        String scene = "tell y0;f0 1;f0 1;f0 1;h0 6; | eat 1";
        due.answers(scene, "hooked 0", 0);
        due.answers(scene, "hooked 1", 1);
        due.answers(scene, "hooked 2", Due.NONE);
        due.answers(scene, "hooked 3", Due.NONE);
        due.answers(scene, "hooked 5", 1);
        due.answers(scene, "hooked 7", Due.NONE);
        due.answers(scene + " | sew 1 0", "hooked 7", 1);
    }

    private static void hookedFewest() {
        due.sentence("HOOKED: the fewest HOOKS .. a SET of HOOKS (of like ones the least)");
        // all five are needed, one alone does it, the least of like ones
        due.answers("tell y0;" + "f0 1;".repeat(5) + "h0 0;h1 0;h2 0;h3 0;h4 0;", "hooked 31", 31);
        due.answers("tell y0;" + "f0 1;".repeat(5) + "h0 0;h1 0;h2 0;h3 0;h2 2;", "hooked 31", 16);
        due.answers("tell y0;" + "f0 1;".repeat(5) + "h2 2;h2 2;h2 2;h2 2;h2 2;", "hooked 31", 1);
        due.answers("tell y0;" + "f0 1;".repeat(5) + "h6 0;h2 2;h2 2;h2 2;h2 2;", "hooked 31", 2);
        due.answers("tell y0;" + "f0 1;".repeat(7) + "h1 1;h3 0;h5 1;h1 2;h5 2;", "hooked 127", 12);
        due.answers("tell y0;" + "f0 1;".repeat(7) + "h6 0;h0 0;", "hooked 64", 1);
        due.answers("tell y0;" + "f0 1;".repeat(7) + "h6 0;h0 0;", "hooked 65", 3);
        // PLACES of the flags, as they are now
        due.answers("tell y0;" + "f0 1;".repeat(7) + "h6 0;h0 0; | turn 7", "hooked 64", 2);
    }

    private static void gapPlace() {
        due.sentence("24: GAP at a PLACE (0 to as many as there are). OUTSIDE.");
        for (int n = 0; n <= 7; n++) {
            String scene = hung("0123456".substring(0, n));
            for (int p = 0; p <= n; p++) {
                due.answers(scene, "gap " + p, p == n ? 127 & ~((1 << n) - 1) : 0);
            }
            due.refused(scene, "gap " + (n + 1), Due.OUTSIDE);
            due.refused(scene, "gap -1", Due.OUTSIDE);
        }
        for (String scene : Scenes.ALL) {
            due.refused(scene, "gap -1", Due.OUTSIDE);
            due.refused(scene, "gap 8", Due.OUTSIDE);
            for (int p : FAR) {
                due.refused(scene, "gap " + p, Due.OUTSIDE);
            }
        }
        for (String scene : Scenes.WITHOUT_CORD) {
            due.answers(scene, "gap 0", 0);
            due.refused(scene, "gap 1", Due.OUTSIDE);
        }
    }

    private static void gap(String row, int... fits) {
        for (int p = 0; p < fits.length; p++) {
            due.answers(hung(row), "gap " + p, fits[p]);
        }
    }

    private static void gapFits() {
        due.sentence("GAP: FLAGS that are off (a SET) which, SEWN at a PLACE, would rise by number between those beside it");
        gap("", 127);
        gap("0", 0, 126);
        gap("6", 63, 0);
        gap("3", 7, 112);
        gap("06", 0, 62, 0);
        gap("60", 62, 0, 62);
        gap("24", 3, 8, 96);
        gap("42", 11, 0, 104);
        gap("23", 3, 0, 112);
        gap("0123456", 0, 0, 0, 0, 0, 0, 0, 0);
        gap("012356", 0, 0, 0, 0, 16, 0, 0);
        gap("653210", 16, 0, 0, 0, 0, 0, 16);
        // where it stands among the further ones does not matter
        gap("5062", 26, 0, 26, 0, 24);
    }

    private static void ends(String heavies, int more, int end) {
        StringBuilder text = new StringBuilder("tell y0;");
        for (int i = 0; i < heavies.length(); i++) {
            text.append("f0 ").append(heavies.charAt(i)).append(';');
        }
        due.answers(text.toString(), "ends 0", more);
        due.answers(text.toString(), "ends 1", end);
    }

    private static void endsOfFew() {
        due.sentence("ENDS: how much more the first has, and 1000; from which end (of like ones 0; NONE: there is no FLAG)");
        for (String scene : new String[] {Scenes.NEW, Scenes.BARE, NONE_ON, Scenes.GONE}) {
            due.answers(scene, "ends 0", 1000);
            due.answers(scene, "ends 1", Due.NONE);
        }
        ends("1", 1001, 0);
        ends("9", 1009, 0);
        ends("11", 1000, 0);
        ends("19", 1008, 1);
        ends("91", 1008, 0);
        ends("191", 993, 0);
        ends("192", 994, 0);
        ends("999", 1009, 0);
    }

    private static void endsOfSeven() {
        due.sentence("ENDS: two take FLAGS by turns from either end, each does its best for more HEAVY together");
        ends("1111111", 1001, 0);
        ends("9999999", 1009, 0);
        ends("9191919", 985, 0);
        ends("1919191", 977, 0);
        ends("191919", 1024, 1);
        ends("919191", 1024, 0);
        ends("9919191", 985, 0);
        ends("1919199", 985, 0);
        due.answers(SEVEN + " | rain true", "ends 0", 1004);
        due.answers(SEVEN, "ends 0", 1004);
    }

    private static void calmYears() {
        due.sentence("26: CALM: n YEARS (0 .. 60) .. OUTSIDE.");
        for (String scene : Scenes.ALL) {
            due.answers(scene, "calm 0 50", 1000000000);
            due.answers(scene, "calm 60 100", 1000000000);
            due.refused(scene, "calm -1 50", Due.OUTSIDE);
            due.refused(scene, "calm 61 50", Due.OUTSIDE);
            for (int n : FAR) {
                due.refused(scene, "calm " + n + " 50", Due.OUTSIDE);
                due.refused(scene, "calm 1 " + n, Due.OUTSIDE);
            }
        }
        due.answers("", "calm 1 50", 500000000);
        due.answers("", "calm 60 99", 547156620);
    }

    private static void calmOdds() {
        due.sentence("26: each by q of a hundred (0 .. 100)");
        for (int n = 0; n <= 60; n++) {
            due.answers("", "calm " + n + " 0", n == 0 ? 1000000000 : 0);
            due.answers("", "calm " + n + " 100", 1000000000);
        }
        for (int q = 0; q <= 100; q++) {
            due.answers("", "calm 0 " + q, 1000000000);
            due.answers("", "calm 1 " + q, 10000000 * q);
        }
        for (String scene : Scenes.ALL) {
            due.refused(scene, "calm 0 -1", Due.OUTSIDE);
            due.refused(scene, "calm 0 101", Due.OUTSIDE);
            due.refused(scene, "calm 60 101", Due.OUTSIDE);
        }
    }

    private static void calmIsCut() {
        due.sentence("26: a BILLION times q / 100 each (cut)");
        due.answers("", "calm 4 1", 10);
        due.answers("", "calm 5 1", 0);
        due.answers("", "calm 6 1", 0);
        due.answers("", "calm 4 99", 960596010);
        // 960596010 times 99 / 100 is 950990049.9
        due.answers("", "calm 5 99", 950990049);
        due.answers("", "calm 29 50", 1);
        due.answers("", "calm 30 50", 0);
        // 1 times 99 / 100 is 0
        due.answers("", "calm 60 50", 0);
    }

    private static void triedChangesNothing() {
        due.sentence("TRIED from now, as nothing else is done; nothing changes by it.");
        for (String scene : Scenes.ALL) {
            for (String call : TRIED) {
                due.unchanged(scene, call);
            }
        }
    }

    /** One object that is asked everything behind each deed answers as new ones that are asked once. */
    private static void triedBeforeOrNot() {
        due.sentence("TRIED from now (whatever was tried before)");
        String[] deeds = {"turn 7", "cut 2", "eat 3", "turn 4", "rain true", "eat 5", "cut 3", "eat 0", "sew 3 1", "eat 6", "turn 2", "eat 1", "eat 2", "eat 4",
            "eat 3", "sew 5 0", "sew 0 1", "year 3", "tell y5;f0 1;f1 9;w1;h0 0;", "turn 2", "cord"};
        DayCords x = Calls.scene(Scenes.SEVEN);
        String scene = Scenes.SEVEN;
        for (String deed : deeds) {
            Calls.ask(x, deed);
            scene += " | " + deed;
            for (int i = 0; i < TRIED.length; i++) {
                String call = TRIED[(i + deed.length()) % TRIED.length];
                due.is(scene + " | " + call + " behind others", Calls.ask(x, call), Calls.ask(Calls.scene(scene), call));
            }
        }
    }
}
