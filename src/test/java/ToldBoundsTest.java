/** Each bound that promises 5 to 9 name, on both sides: told, flag, at, hook, word. */
public final class ToldBoundsTest {
    private static final Due due = new Due();
    private static final String DRY = "tell y0;f0 1;f0 2;f0 3;f0 4;f0 5;f0 6;f0 7;";
    private static final int[] FAR = {Integer.MIN_VALUE, -1000000001, 1000000, Integer.MAX_VALUE};

    public static void main(String[] args) {
        toldWhat();
        toldOfTheText();
        toldYearsAndWind();
        toldWhichAreOn();
        toldWhichAreOut();
        toldWhichAreWet();
        toldRight();
        toldCrossed();
        toldCuts();
        toldReadings();
        toldFirst();
        toldSpelt();
        toldOldAndBook();
        toldUndone();
        numbersFromNoughtOn();
        flagNumber();
        flagWhat();
        flagPlace();
        flagFaded();
        flagSewn();
        places();
        hookNumber();
        hookReachesNow();
        wordNumber();
        wordKinds();
        lookingChangesNothing();
        due.end();
    }

    private static void toldWhat() {
        due.sentence("5: 0 .. 19 .. OUTSIDE.");
        for (String scene : Scenes.ALL) {
            due.refused(scene, "told -1", Due.OUTSIDE);
            due.refused(scene, "told 20", Due.OUTSIDE);
            for (int what : FAR) {
                due.refused(scene, "told " + what, Due.OUTSIDE);
            }
        }
        due.sentence("5: 0 1 there is a CORD, 0 not");
        for (String scene : Scenes.WITH_CORD) {
            due.answers(scene, "told 0", 1);
        }
        for (String scene : Scenes.WITHOUT_CORD) {
            due.answers(scene, "told 0", 0);
        }
    }

    private static void toldOfTheText() {
        due.sentence("5: 1 FLAGS, 2 WORDS, 3 HOOKS, 4 letters of THE TEXT");
        int[][] want = {{0, 0, 0, 0}, {0, 0, 0, 0}, {1, 1, 1, 0}, {7, 6, 5, 0}, {7, 6, 5, 5}, {7, 6, 5, 240}, {0, 0, 0, 0}};
        for (int s = 0; s < want.length; s++) {
            for (int what = 1; what <= 4; what++) {
                due.answers(Scenes.ALL[s], "told " + what, want[s][what - 1]);
            }
        }
        due.answers("feed 0", "told 4", 1);
        // eaten flags are flags all the same
        due.answers(Scenes.ONE + " | eat 0", "told 1", 1);
        due.answers(Scenes.ONE + " | eat 0", "told 7", 0);
    }

    private static void toldYearsAndWind() {
        due.sentence("5: 5 YEARS, 6 WIND");
        due.answers(Scenes.ONE, "told 5", 0);
        due.answers(Scenes.ONE + " | year 1", "told 5", 1);
        due.answers(Scenes.ONE + " | year 20 | drift 20", "told 5", 40);
        due.answers(Scenes.LATE, "told 5", 9000);
        due.answers(Scenes.LATE + " | drift 20", "told 5", 9020);
        for (int w = 0; w <= 9; w++) {
            due.answers("tell y" + w + ";", "told 6", w);
            due.answers("tell y5; | wind " + w, "told 6", w);
        }
        due.answers("", "told 5", 0);
        due.answers("", "told 6", 0);
    }

    private static void toldWhichAreOn() {
        due.sentence("5: 7 FLAGS on THE CORD (how many), 8 which (a SET)");
        String scene = DRY;
        for (int f = 0; f < 7; f++) {
            due.answers(scene, "told 7", 7 - f);
            due.answers(scene, "told 8", 127 & ~((1 << f) - 1));
            due.answers(DRY + " | eat " + f, "told 8", 127 & ~(1 << f));
            scene += " | eat " + f;
        }
        due.answers(scene, "told 7", 0);
        due.answers(scene, "told 8", 0);
        for (int f = 0; f < 7; f++) {
            due.answers(scene + " | sew " + f + " 0", "told 7", 1);
            due.answers(scene + " | sew " + f + " 0", "told 8", 1 << f);
        }
        due.answers("", "told 7", 0);
        due.answers("", "told 8", 0);
    }

    private static void toldWhichAreOut() {
        due.sentence("5: 9 that are OUT");
        for (int w = 0; w <= 9; w++) {
            int out = w >= 7 ? 127 : (1 << w) - 1;
            due.answers(DRY + " | wind " + w, "told 9", out);
        }
        due.answers(DRY + " | wind 9 | eat 0", "told 9", 126);
        due.answers(DRY + " | wind 9 | eat 6", "told 9", 63);
        due.answers("tell y9;", "told 9", 0);
        due.answers("", "told 9", 0);
    }

    private static void toldWhichAreWet() {
        due.sentence("5: 10 that are WET");
        due.answers(DRY, "told 10", 0);
        due.answers(DRY + " | rain true", "told 10", 127);
        due.answers(DRY + " | rain true | eat 0 | eat 6", "told 10", 62);
        due.answers(DRY + " | rain true | eat 0 | sew 0 0", "told 10", 126);
        due.answers(DRY + " | eat 0 | rain true | sew 0 6", "told 10", 126);
        due.answers(DRY + " | rain true | rain false", "told 10", 0);
        due.answers("tell y9; | rain true", "told 10", 0);
        due.answers("", "told 10", 0);
    }

    private static void toldRight() {
        due.sentence("5: 11 1 it is RIGHT, 0 not (0 without a CORD)");
        for (String scene : Scenes.WITHOUT_CORD) {
            due.answers(scene, "told 11", 0);
        }
        due.answers(Scenes.BARE, "told 11", 1);
        due.answers(Scenes.ONE, "told 11", 1);
        due.answers(Scenes.ONE + " | eat 0", "told 11", 1);
        due.answers(DRY, "told 11", 1);
        due.answers(DRY + " | turn 2", "told 11", 0);
        due.answers(DRY + " | turn 2 | eat 0", "told 11", 1);
        due.answers(DRY + " | cut 6", "told 11", 0);
        due.answers(DRY + " | cut 6 | eat 6", "told 11", 1);
        due.answers(DRY + " | eat 3", "told 11", 1);
        due.answers(DRY + " | eat 5 | sew 5 6", "told 11", 0);
    }

    private static void toldCrossed() {
        due.sentence("5: 12 CROSSED (pairs of FLAGS, the lesser behind the greater)");
        due.answers("", "told 12", 0);
        due.answers(Scenes.BARE, "told 12", 0);
        due.answers(Scenes.ONE, "told 12", 0);
        due.answers(DRY, "told 12", 0);
        int[] crossed = {0, 0, 1, 3, 6, 10, 15, 21};
        for (int k = 2; k <= 7; k++) {
            due.answers(DRY + " | turn " + k, "told 12", crossed[k]);
        }
        for (int p = 1; p <= 6; p++) {
            due.answers(DRY + " | cut " + p, "told 12", p * (7 - p));
        }
        due.answers(DRY + " | turn 7 | eat 3", "told 12", 15);
    }

    private static void toldCuts() {
        due.sentence("5: 13 CUTS (at which PLACE (0: it is RIGHT); NONE)");
        due.answers(Scenes.BARE, "told 13", 0);
        due.answers(Scenes.ONE, "told 13", 0);
        due.answers(DRY, "told 13", 0);
        for (int p = 1; p <= 6; p++) {
            due.answers(DRY + " | cut " + p, "told 13", 7 - p);
        }
        due.answers(DRY + " | turn 2", "told 13", Due.NONE);
        due.answers(DRY + " | turn 7", "told 13", Due.NONE);
        due.answers("tell y0;f0 1;f0 1; | turn 2", "told 13", 1);
        due.answers("tell y0;f0 1;f0 1;f0 1; | turn 2", "told 13", Due.NONE);
        due.answers(DRY + " | turn 2 | eat 0", "told 13", 0);
        // one that is right but for its last
        due.answers(DRY + " | eat 5 | sew 5 6", "told 13", Due.NONE);
        due.answers(DRY + " | eat 0 | sew 0 6", "told 13", 6);
        due.answers(DRY + " | eat 6 | sew 6 0", "told 13", 1);
    }

    private static void toldReadings() {
        due.sentence("5: 14 READINGS (an empty one: 1)");
        due.answers(Scenes.BARE, "told 14", 1);
        due.answers("tell y0;w0;", "told 14", 1);
        due.answers(Scenes.ONE, "told 14", 1);
        due.answers(Scenes.ONE + " | eat 0", "told 14", 1);
        due.answers("tell y0;f0 1;", "told 14", 0);
        due.answers("tell y0;f0 1;w1;", "told 14", 0);
        due.answers("tell y0;f0 1;w0,0;", "told 14", 0);
        due.answers("tell y0;f0 1;w0;w0;w0;w0;w0;w0;", "told 14", 6);
        due.answers("tell y0;f0 1;f0 1;f0 1;f0 1;w0,0,0,0;", "told 14", 1);
        due.answers("tell y0;f0 1;f0 1;f0 1;f0 1;f0 1;w0,0,0,0;", "told 14", 0);
        due.answers("tell y0;" + "f0 1;".repeat(7) + "w0;w0;w0;w0;w0;w0;", "told 14", 279936);
    }

    private static void toldFirst() {
        due.sentence("5: 15 FIRST (each 1 more than the WORD; 0 for an empty one; NONE: no way)");
        due.answers(Scenes.BARE, "told 15", 0);
        due.answers("tell y0;w0;", "told 15", 0);
        due.answers(Scenes.ONE, "told 15", 1);
        due.answers(Scenes.ONE + " | eat 0", "told 15", 0);
        due.answers("tell y0;f0 1;", "told 15", Due.NONE);
        due.answers("tell y0;f0 1;w0,0;", "told 15", Due.NONE);
        due.answers("tell y0;f0 1;w1;w1;w1;w1;w1;w0;", "told 15", 6);
        due.answers("tell y0;" + "f0 1;".repeat(7) + "w1;w1;w1;w1;w1;w0;", "told 15", 6666666);
        due.answers("tell y0;" + "f0 1;".repeat(7) + "w0;w0;w0;w0;w0;w0;", "told 15", 1111111);
        due.answers("tell y0;" + "f0 1;".repeat(7) + "w0,0,0,0;w0,0,0;", "told 15", 12);
        due.sentence("WORD by WORD the lesser");
        due.answers("tell y0;f0 1;f1 1;w0;w0,1;w1;", "told 15", 13);
        due.answers("tell y0;f0 1;f1 1;w0,1;w0;w1;", "told 15", 1);
        due.answers("tell y0;f0 1;f1 1;w0;w0,1;", "told 15", 2);
        due.answers("tell y0;f0 1;f1 1;w1;w0;w0,1;", "told 15", 21);
    }

    private static void toldSpelt() {
        due.sentence("5: 16 SPELT (PLACES at which any WORD would begin, whatever follows)");
        due.answers(Scenes.BARE, "told 16", 0);
        due.answers("tell y0;w0;", "told 16", 0);
        due.answers(Scenes.ONE, "told 16", 1);
        due.answers("tell y0;" + "f0 1;".repeat(7), "told 16", 0);
        due.answers("tell y0;" + "f0 1;".repeat(7) + "w1;", "told 16", 0);
        due.answers("tell y0;" + "f0 1;".repeat(7) + "w0;", "told 16", 127);
        due.answers("tell y0;" + "f0 1;".repeat(7) + "w0,0;", "told 16", 63);
        due.answers("tell y0;" + "f0 1;".repeat(7) + "w0,0,0;", "told 16", 31);
        due.answers("tell y0;" + "f0 1;".repeat(7) + "w0,0,0,0;", "told 16", 15);
        due.answers("tell y0;" + "f0 1;".repeat(6) + "f1 1;w0,1;", "told 16", 32);
        due.answers("tell y0;f0 1;f1 1;f2 1;w0;w2;", "told 16", 5);
        due.answers("tell y0;f0 1;f1 1;f2 1;w0;w2; | turn 2", "told 16", 6);
    }

    private static void toldOldAndBook() {
        due.sentence("5: 17 what is OLD, 18 entries of THE BOOK");
        for (int n = 0; n <= 7; n++) {
            due.answers(Scenes.ONE + " | " + n + " x old 0 0 true", "told 17", Math.min(n, 6));
            due.answers(Scenes.ONE + " | " + n + " x old 0 0 true", "told 18", 0);
        }
        for (int n = 0; n <= 21; n++) {
            due.answers(Scenes.ONE + " | " + n + " x write 0 0", "told 18", Math.min(n, 20));
            due.answers(Scenes.ONE + " | " + n + " x write 0 0", "told 17", 0);
        }
    }

    private static void toldUndone() {
        due.sentence("5: 19 how many can be undone (30 at most are kept)");
        for (int n = 0; n <= 33; n++) {
            due.answers(Scenes.ONE + " | " + n + " x wind 4", "told 19", Math.min(n, 30));
        }
        due.answers("", "told 19", 0);
    }

    private static void numbersFromNoughtOn() {
        due.sentence("What has a number has it from 0 on, as it comes.");
        String scene = "tell y0;f5 1;w1;h6 1;f0 9;w2,3;h0 2;f3 4;w4;h3 3;";
        int[][] flags = {{5, 1}, {0, 9}, {3, 4}};
        int[] words = {1, 2, 4};
        int[][] hooks = {{6, 1}, {0, 2}, {3, 3}};
        for (int i = 0; i < 3; i++) {
            for (int what = 0; what < 2; what++) {
                due.answers(scene, "flag " + i + " " + what, flags[i][what]);
                due.answers(scene, "hook " + i + " " + what, hooks[i][what]);
            }
            due.answers(scene, "word " + i + " 0", words[i]);
        }
    }

    private static void flagNumber() {
        due.sentence("6: Of a FLAG .. UNKNOWN");
        for (int n = 0; n <= 7; n++) {
            String scene = "tell y0;" + "f3 4;".repeat(n);
            for (int f = 0; f < n; f++) {
                due.answers(scene, "flag " + f + " 0", 3);
                due.answers(scene, "flag " + f + " 1", 4);
            }
            due.refused(scene, "flag " + n + " 0", Due.UNKNOWN);
            due.refused(scene, "flag -1 0", Due.UNKNOWN);
        }
        for (String scene : Scenes.ALL) {
            for (int f : FAR) {
                due.refused(scene, "flag " + f + " 0", Due.UNKNOWN);
            }
        }
        for (String scene : Scenes.WITHOUT_CORD) {
            due.refused(scene, "flag 0 0", Due.UNKNOWN);
        }
    }

    private static void flagWhat() {
        due.sentence("6: what = 0 .. 4 .. OUTSIDE");
        for (String scene : new String[] {Scenes.ONE, Scenes.SEVEN, Scenes.WORKED, Scenes.BRIMFUL}) {
            due.refused(scene, "flag 0 -1", Due.OUTSIDE);
            due.refused(scene, "flag 0 5", Due.OUTSIDE);
            for (int what : FAR) {
                due.refused(scene, "flag 0 " + what, Due.OUTSIDE);
            }
        }
        // off, it is known all the same
        due.answers(Scenes.ONE + " | eat 0", "flag 0 0", 2);
        due.answers(Scenes.ONE + " | eat 0", "flag 0 1", 4);
        due.refused(Scenes.ONE + " | eat 0", "flag 0 5", Due.OUTSIDE);
    }

    private static void flagPlace() {
        due.sentence("6: 2 its PLACE (NONE: off)");
        for (int f = 0; f < 7; f++) {
            due.answers(DRY, "flag " + f + " 2", f);
            due.answers(DRY + " | turn 7", "flag " + f + " 2", 6 - f);
            due.answers(DRY + " | eat " + f, "flag " + f + " 2", Due.NONE);
            due.answers(DRY + " | eat 3", "flag " + f + " 2", f < 3 ? f : f == 3 ? Due.NONE : f - 1);
        }
        due.answers(Scenes.ONE, "flag 0 2", 0);
        due.answers(Scenes.ONE + " | eat 0", "flag 0 2", Due.NONE);
    }

    private static void flagFaded() {
        due.sentence("6: 3 by how much it is FADED (0 (at first) to 99)");
        String[] years = {"year 20", "year 20", "year 20", "year 20", "year 18"};
        String scene = "tell y0;f0 1;";
        due.answers(scene, "flag 0 3", 0);
        scene += " | " + String.join(" | ", years);
        due.answers(scene, "flag 0 3", 98);
        due.answers(scene + " | year 1", "flag 0 3", 99);
        due.answers(scene + " | year 2", "flag 0 3", 99);
        due.answers(scene + " | wind 9 | year 1", "flag 0 3", 99);
        due.answers(scene + " | year 1 | wind 9 | year 1", "flag 0 3", 99);
        due.answers(scene + " | eat 0", "flag 0 3", 98);
    }

    private static void flagSewn() {
        due.sentence("6: 4 how often it was SEWN");
        String scene = Scenes.ONE;
        for (int n = 0; n <= 9; n++) {
            due.answers(scene, "flag 0 4", n);
            due.answers(scene + " | eat 0", "flag 0 4", n);
            due.answers(scene + " | sew 0 0", "flag 0 4", n);
            scene += " | eat 0 | sew 0 0";
        }
    }

    private static void places() {
        due.sentence("7: The FLAG at a PLACE (0 .. 6); NONE. OUTSIDE.");
        for (int n = 0; n <= 7; n++) {
            for (int p = 0; p <= 6; p++) {
                due.answers("tell y0;" + "f0 1;".repeat(n), "at " + p, p < n ? p : Due.NONE);
            }
        }
        due.answers("", "at 0", Due.NONE);
        due.answers("", "at 6", Due.NONE);
        due.answers(DRY + " | turn 7", "at 0", 6);
        due.answers(DRY + " | turn 7", "at 6", 0);
        due.answers(DRY + " | eat 0", "at 6", Due.NONE);
        due.answers(DRY + " | eat 0", "at 5", 6);
        for (String scene : Scenes.ALL) {
            due.refused(scene, "at -1", Due.OUTSIDE);
            due.refused(scene, "at 7", Due.OUTSIDE);
            for (int p : FAR) {
                due.refused(scene, "at " + p, Due.OUTSIDE);
            }
        }
    }

    private static void hookNumber() {
        due.sentence("8: Of a HOOK: what = 0 P, 1 R, 2 FLAGS that it reaches now. UNKNOWN, OUTSIDE.");
        for (int n = 0; n <= 5; n++) {
            String scene = "tell y0;f0 1;" + "h1 2;".repeat(n);
            for (int h = 0; h < n; h++) {
                due.answers(scene, "hook " + h + " 0", 1);
                due.answers(scene, "hook " + h + " 1", 2);
                due.answers(scene, "hook " + h + " 2", 1);
                due.refused(scene, "hook " + h + " -1", Due.OUTSIDE);
                due.refused(scene, "hook " + h + " 3", Due.OUTSIDE);
            }
            due.refused(scene, "hook " + n + " 0", Due.UNKNOWN);
            due.refused(scene, "hook -1 0", Due.UNKNOWN);
        }
        for (String scene : Scenes.ALL) {
            for (int h : FAR) {
                due.refused(scene, "hook " + h + " 0", Due.UNKNOWN);
            }
        }
        for (int what : FAR) {
            due.refused(Scenes.SEVEN, "hook 0 " + what, Due.OUTSIDE);
        }
        for (String scene : Scenes.WITHOUT_CORD) {
            due.refused(scene, "hook 0 0", Due.UNKNOWN);
        }
    }

    private static void hookReachesNow() {
        due.sentence("8: 2 FLAGS that it reaches now (a SET)");
        String hooks = DRY + "h0 0;h6 0;h6 6;h3 0;h0 6;";
        int[] all = {1, 64, 127, 8, 127};
        int[] turned = {64, 1, 127, 8, 127};
        int[] eaten = {2, 0, 126, 16, 126};
        for (int h = 0; h < 5; h++) {
            due.answers(hooks, "hook " + h + " 2", all[h]);
            due.answers(hooks + " | turn 7", "hook " + h + " 2", turned[h]);
            due.answers(hooks + " | eat 0", "hook " + h + " 2", eaten[h]);
        }
        due.answers("tell y0;h0 6;", "hook 0 2", 0);
        due.answers("tell y0;f0 1;h1 0;", "hook 0 2", 0);
        due.answers("tell y0;f0 1;h1 1;", "hook 0 2", 1);
    }

    private static void wordNumber() {
        due.sentence("9: UNKNOWN (there is no such WORD)");
        for (int n = 0; n <= 6; n++) {
            String scene = "tell y0;" + "w4;".repeat(n);
            for (int w = 0; w < n; w++) {
                due.answers(scene, "word " + w + " 0", 4);
            }
            due.refused(scene, "word " + n + " 0", Due.UNKNOWN);
            due.refused(scene, "word -1 0", Due.UNKNOWN);
        }
        for (String scene : Scenes.ALL) {
            for (int w : FAR) {
                due.refused(scene, "word " + w + " 0", Due.UNKNOWN);
            }
        }
        for (String scene : Scenes.WITHOUT_CORD) {
            due.refused(scene, "word 0 0", Due.UNKNOWN);
        }
    }

    private static void wordKinds() {
        due.sentence("9: KIND k (0 .. 3) of a WORD; NONE .. OUTSIDE.");
        String scene = "tell y0;w0;w1,2;w3,4,5;w0,1,2,3;";
        int[][] want = {{0, -1, -1, -1}, {1, 2, -1, -1}, {3, 4, 5, -1}, {0, 1, 2, 3}};
        for (int w = 0; w < 4; w++) {
            for (int k = 0; k < 4; k++) {
                due.answers(scene, "word " + w + " " + k, want[w][k]);
            }
            due.refused(scene, "word " + w + " -1", Due.OUTSIDE);
            due.refused(scene, "word " + w + " 4", Due.OUTSIDE);
            for (int k : FAR) {
                due.refused(scene, "word " + w + " " + k, Due.OUTSIDE);
            }
        }
        // of a longer word told before nothing is left
        due.answers("tell y0;w0,1,2,3; | tell y0;w5;", "word 0 1", Due.NONE);
    }

    private static void lookingChangesNothing() {
        due.sentence("TRIED .. nothing changes by it");
        for (String scene : Scenes.ALL) {
            for (int what = 0; what < 20; what++) {
                due.unchanged(scene, "told " + what);
            }
            for (int what = 0; what < 5; what++) {
                due.unchanged(scene, "flag 0 " + what);
                due.unchanged(scene, "hook 0 " + what);
                due.unchanged(scene, "word 0 " + what);
                due.unchanged(scene, "at " + what);
            }
        }
    }
}
