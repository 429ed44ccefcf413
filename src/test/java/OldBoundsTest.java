/** Each bound that section 3 names of what is OLD and of THE BOOK, and promises 27 to 32, on both sides. */
public final class OldBoundsTest {
    private static final Due due = new Due();
    private static final String OFF = "tell y0;f0 1;f0 9;f5 1;f5 9; | eat 0 | eat 1 | eat 2 | eat 3";
    private static final int[] FAR = {Integer.MIN_VALUE, -1000000001, 1000000, Integer.MAX_VALUE};

    public static void main(String[] args) {
        oldWhat();
        oldKind();
        oldHeavy();
        oldFull();
        couldBeOfNone();
        couldBeFits();
        nextOfFew();
        nextParts();
        nextOfLikeOnes();
        writePlace();
        writeFlag();
        writeFull();
        judgeOfNone();
        judgeFirst();
        judgeNow();
        tearBoth();
        lookingChangesNothing();
        due.end();
    }

    private static void oldWhat() {
        due.sentence("27: OLD (what 0 .. 1 ..) .. OUTSIDE");
        for (String scene : Scenes.ALL) {
            due.refused(scene, "old -1 1 true", Due.OUTSIDE);
            due.refused(scene, "old 2 1 true", Due.OUTSIDE);
            for (int far : FAR) {
                due.refused(scene, "old " + far + " 1 false", Due.OUTSIDE);
                due.refused(scene, "old 0 " + far + " true", Due.OUTSIDE);
                due.refused(scene, "old 1 " + far + " true", Due.OUTSIDE);
            }
        }
    }

    private static void oldKind() {
        due.sentence("27: what 0: KIND k, 0 .. 5");
        for (int k = 0; k <= 5; k++) {
            due.answers("", "old 0 " + k + " true", 1);
            due.answers("", "old 0 " + k + " false", 1);
            due.answers(OFF + " | old 0 " + k + " true", "couldBe", k == 0 ? 3 : k == 5 ? 12 : 0);
            due.answers(OFF + " | old 0 " + k + " false", "couldBe", k == 0 ? 12 : k == 5 ? 3 : 15);
        }
        for (String scene : Scenes.ALL) {
            due.refused(scene, "old 0 -1 true", Due.OUTSIDE);
            due.refused(scene, "old 0 6 true", Due.OUTSIDE);
            due.refused(scene, "old 0 6 false", Due.OUTSIDE);
            due.refused(scene, "old 0 9 true", Due.OUTSIDE);
        }
    }

    private static void oldHeavy() {
        due.sentence("27: 1: HEAVY k, 1 .. 9");
        for (int k = 1; k <= 9; k++) {
            due.answers("", "old 1 " + k + " true", 1);
            due.answers("", "old 1 " + k + " false", 1);
            due.answers(OFF + " | old 1 " + k + " true", "couldBe", k == 1 ? 5 : k == 9 ? 10 : 0);
            due.answers(OFF + " | old 1 " + k + " false", "couldBe", k == 1 ? 10 : k == 9 ? 5 : 15);
        }
        for (String scene : Scenes.ALL) {
            due.refused(scene, "old 1 -1 true", Due.OUTSIDE);
            due.refused(scene, "old 1 0 true", Due.OUTSIDE);
            due.refused(scene, "old 1 0 false", Due.OUTSIDE);
            due.refused(scene, "old 1 10 true", Due.OUTSIDE);
        }
    }

    private static void oldFull() {
        due.sentence("27: how much .. FULL (6).");
        for (String scene : new String[] {"", Scenes.BARE, OFF}) {
            for (int n = 0; n <= 5; n++) {
                due.answers(scene + (scene.isEmpty() ? "" : " | ") + n + " x old 0 3 false", "old 1 9 false", n + 1);
            }
        }
        String full = OFF + " | old 0 5 false | 5 x old 0 3 false";
        due.refused(full, "old 0 0 false", Due.FULL);
        due.refused(full, "old 1 9 true", Due.FULL);
        due.refused(Scenes.BRIMFUL, "old 0 0 true", Due.FULL);
        due.answers(full, "couldBe", 3);
        due.answers(full + " | tear", "old 0 0 true", 1);
        // the sixth counts
        due.answers(OFF + " | 5 x old 0 3 false | old 0 5 false", "couldBe", 3);
        due.answers(OFF + " | 6 x old 0 3 false | old 0 5 false", "couldBe", 15);
    }

    private static void couldBeOfNone() {
        due.sentence("28: COULD BE: FLAGS (a SET) that are off (none)");
        for (String scene : new String[] {Scenes.NEW, Scenes.BARE, Scenes.ONE, Scenes.SEVEN, Scenes.GONE}) {
            due.answers(scene, "couldBe", 0);
            due.answers(scene.isEmpty() ? "old 0 2 true" : scene + " | old 0 2 true", "couldBe", 0);
            due.answers(scene.isEmpty() ? "old 0 2 false" : scene + " | old 0 2 false", "couldBe", 0);
        }
    }

    private static void couldBeFits() {
        due.sentence("28: by which all is so");
        due.answers(OFF, "couldBe", 15);
        due.answers(OFF + " | sew 1 0", "couldBe", 13);
        due.answers(Scenes.ONE + " | eat 0", "couldBe", 1);
        due.answers(Scenes.ONE + " | eat 0 | old 0 2 true | old 1 4 true", "couldBe", 1);
        due.answers(Scenes.ONE + " | eat 0 | old 0 2 true | old 1 4 false", "couldBe", 0);
        due.answers(OFF + " | old 0 0 true | old 1 1 true", "couldBe", 1);
        due.answers(OFF + " | old 0 0 false | old 1 1 false", "couldBe", 8);
        due.answers(OFF + " | old 0 0 true | old 0 5 true", "couldBe", 0);
        due.answers(OFF + " | old 0 0 true | old 0 0 false", "couldBe", 0);
        due.answers(OFF + " | 6 x old 0 0 true", "couldBe", 3);
        due.answers(OFF + " | old 0 0 true | sew 0 0", "couldBe", 2);
        due.answers(Scenes.SEVEN + " | eat 0 | eat 1 | eat 2 | eat 3 | eat 4 | eat 5 | eat 6", "couldBe", 127);
    }

    private static void nextOfFew() {
        due.sentence("29: NEXT; NONE (none parts them).");
        for (String scene : new String[] {Scenes.NEW, Scenes.BARE, Scenes.ONE, Scenes.SEVEN, Scenes.GONE}) {
            due.answers(scene, "next", Due.NONE);
        }
        due.answers(Scenes.ONE + " | eat 0", "next", Due.NONE);
        due.answers("tell y0;f0 1;f0 1; | eat 0 | eat 1", "next", Due.NONE);
        due.answers("tell y0;" + "f5 9;".repeat(7) + " | eat 0 | eat 1 | eat 2 | eat 3 | eat 4 | eat 5 | eat 6", "next", Due.NONE);
        due.answers(OFF + " | old 0 3 true", "next", Due.NONE);
        due.answers(OFF + " | old 0 0 true | old 1 1 true", "next", Due.NONE);
    }

    /** Two flags that only differ so: what parts them. */
    private static void parts(String one, String other, int look) {
        due.answers("tell y0;f" + one + ";f" + other + "; | eat 0 | eat 1", "next", look);
    }

    private static void nextParts() {
        due.sentence("29: (KIND k: k; HEAVY m: 10 and m)");
        for (int k = 0; k < 5; k++) {
            parts(k + " 3", "5 3", k);
            parts("5 3", k + " 3", k);
        }
        parts("4 9", "5 9", 4);
        for (int m = 1; m < 9; m++) {
            parts("2 " + m, "2 9", 10 + m);
            parts("2 9", "2 " + m, 10 + m);
        }
        parts("0 9", "5 1", 0);
        // only what nothing else parts so well: kind 5 and heavy 9 are the last of their row
        due.answers("tell y0;f5 1;f5 2;f0 3;f1 4; | eat 0 | eat 1 | eat 2 | eat 3", "next", 5);
        due.answers("tell y0;f2 9;f2 9;f2 7;f2 8; | eat 0 | eat 1 | eat 2 | eat 3", "next", 19);
    }

    private static void nextOfLikeOnes() {
        due.sentence("29: the greater part is least; of like ones the least");
        due.answers(OFF, "next", 0);
        due.answers(OFF + " | old 0 0 true", "next", 11);
        due.answers(OFF + " | old 1 9 true", "next", 0);
        // 2 of 4 is better than 1 of 4, and 3 of 4 no better than it
        due.answers("tell y0;f0 1;f1 1;f1 2;f2 2; | eat 0 | eat 1 | eat 2 | eat 3", "next", 1);
        due.answers("tell y0;f0 1;f1 1;f1 1;f1 2; | eat 0 | eat 1 | eat 2 | eat 3", "next", 0);
        due.answers("tell y0;f1 1;f1 1;f1 1;f2 2; | eat 0 | eat 1 | eat 2 | eat 3", "next", 1);
        // of seven: 3 and 4
        due.answers("tell y0;f0 1;f0 1;f1 1;f1 2;f1 2;f2 2;f3 2; | eat 0 | eat 1 | eat 2 | eat 3 | eat 4 | eat 5 | eat 6", "next", 1);
        due.answers("tell y0;f0 1;f0 1;f1 1;f1 2;f4 2;f2 2;f3 2; | eat 0 | eat 1 | eat 2 | eat 3 | eat 4 | eat 5 | eat 6", "next", 11);
        // only flags that are off are told apart
        due.answers("tell y0;f0 1;f0 1;f3 3; | eat 0 | eat 1", "next", Due.NONE);
    }

    private static void writePlace() {
        due.sentence("30: An entry behind THE BOOK (PLACE 0 .. 6 ..): how many .. OUTSIDE (the PLACE)");
        for (int p = 0; p <= 6; p++) {
            due.answers(Scenes.ONE, "write " + p + " 0", 1);
            due.answers(Scenes.BARE, "write " + p + " -1", 1);
            due.answers("", "write " + p + " -1", 1);
        }
        for (String scene : Scenes.ALL) {
            due.refused(scene, "write -1 -1", Due.OUTSIDE);
            due.refused(scene, "write 7 -1", Due.OUTSIDE);
            for (int p : FAR) {
                due.refused(scene, "write " + p + " -1", Due.OUTSIDE);
            }
        }
        due.refused(Scenes.ONE, "write -1 0", Due.OUTSIDE);
        due.refused(Scenes.ONE, "write 7 0", Due.OUTSIDE);
    }

    private static void writeFlag() {
        due.sentence("30: a FLAG, or NONE .. UNKNOWN (the FLAG)");
        for (int n = 0; n <= 7; n++) {
            String scene = "tell y0;" + "f0 1;".repeat(n);
            due.answers(scene, "write 0 -1", 1);
            for (int f = 0; f < n; f++) {
                due.answers(scene, "write 0 " + f, 1);
            }
            due.refused(scene, "write 0 " + n, Due.UNKNOWN);
            due.refused(scene, "write 0 -2", Due.UNKNOWN);
        }
        for (String scene : Scenes.ALL) {
            due.refused(scene, "write 0 7", Due.UNKNOWN);
            for (int f : FAR) {
                due.refused(scene, "write 0 " + f, Due.UNKNOWN);
            }
        }
        for (String scene : Scenes.WITHOUT_CORD) {
            due.refused(scene, "write 0 0", Due.UNKNOWN);
        }
        // one that is off is a FLAG all the same
        due.answers(Scenes.ONE + " | eat 0", "write 0 0", 1);
    }

    private static void writeFull() {
        due.sentence("30: FULL (20).");
        for (int n = 0; n <= 19; n++) {
            due.answers(Scenes.ONE + " | " + n + " x write 0 0", "write 1 -1", n + 1);
        }
        String full = Scenes.ONE + " | 20 x write 0 0";
        due.refused(full, "write 0 0", Due.FULL);
        due.refused(full, "write 0 -1", Due.FULL);
        due.refused(full, "write 6 -1", Due.FULL);
        due.refused(Scenes.BRIMFUL, "write 0 0", Due.FULL);
        due.answers(full + " | tear", "write 0 0", 1);
        // the twentieth counts, the twenty-first does not
        due.answers(Scenes.ONE + " | 19 x write 0 0 | write 0 -1", "judge", 19);
        due.answers(Scenes.ONE + " | 20 x write 0 0 | write 0 -1", "judge", Due.NONE);
    }

    private static void judgeOfNone() {
        due.sentence("31: WRONG; NONE.");
        for (String scene : new String[] {Scenes.NEW, Scenes.BARE, Scenes.ONE, Scenes.SEVEN, Scenes.GONE}) {
            due.answers(scene, "judge", Due.NONE);
        }
        String right = Scenes.SEVEN + " | write 0 0 | write 1 1 | write 2 2 | write 3 3 | write 4 4 | write 5 5 | write 6 6";
        due.answers(right, "judge", Due.NONE);
        due.answers(Scenes.ONE + " | write 0 0 | write 1 -1 | write 6 -1", "judge", Due.NONE);
        due.answers("write 0 -1 | write 6 -1", "judge", Due.NONE);
    }

    private static void judgeFirst() {
        due.sentence("31: WRONG: the first that is otherwise now");
        due.answers(Scenes.ONE + " | write 0 -1", "judge", 0);
        due.answers(Scenes.ONE + " | write 1 0", "judge", 0);
        due.answers(Scenes.SEVEN + " | write 0 1", "judge", 0);
        due.answers(Scenes.SEVEN + " | write 0 0 | write 0 1", "judge", 1);
        due.answers(Scenes.SEVEN + " | write 0 0 | write 0 1 | write 0 2", "judge", 1);
        due.answers(Scenes.SEVEN + " | write 6 6 | write 6 5", "judge", 1);
        due.answers(Scenes.SEVEN + " | write 6 -1", "judge", 0);
        for (int n = 0; n <= 19; n++) {
            due.answers(Scenes.ONE + " | " + n + " x write 0 0 | write 0 -1", "judge", n);
        }
    }

    private static void judgeNow() {
        due.sentence("31: otherwise now");
        String scene = Scenes.SEVEN + " | write 0 0 | write 6 6";
        due.answers(scene + " | eat 6", "judge", 1);
        due.answers(scene + " | eat 0", "judge", 0);
        due.answers(scene + " | eat 6 | undo 1", "judge", Due.NONE);
        due.answers(scene + " | keep 0 | turn 7", "judge", 0);
        due.answers(scene + " | keep 0 | turn 7 | goBack 0", "judge", Due.NONE);
        due.answers(scene + " | turn 6 | turn 6", "judge", Due.NONE);
        due.answers(Scenes.SEVEN + " | write 6 -1 | eat 3", "judge", Due.NONE);
    }

    private static void tearBoth() {
        due.sentence("32: Nothing OLD, no BOOK: how much both had.");
        for (int n = 0; n <= 7; n++) {
            due.answers(Scenes.ONE + " | " + n + " x old 0 0 true", "tear", Math.min(n, 6));
        }
        for (int n = 0; n <= 21; n++) {
            due.answers(Scenes.ONE + " | " + n + " x write 0 0", "tear", Math.min(n, 20));
        }
        due.answers(Scenes.BRIMFUL, "tear", 26);
        due.answers(Scenes.BRIMFUL + " | tear", "tear", 0);
        due.answers(Scenes.BRIMFUL + " | tear", "told 17", 0);
        due.answers(Scenes.BRIMFUL + " | tear", "told 18", 0);
        due.answers(Scenes.BRIMFUL + " | tear", "judge", Due.NONE);
        due.answers("", "tear", 0);
        due.answers("old 0 0 true | write 0 -1", "tear", 2);
        // all else stays
        String scene = Scenes.SEVEN + " | seed 5 | keep 0 | turn 5 | feed 32";
        due.alike(scene, scene + " | old 0 0 true | write 0 3 | tear");
        due.alike(scene, scene + " | 6 x old 0 0 true | 20 x write 0 3 | tear");
    }

    private static void lookingChangesNothing() {
        due.sentence("COULD BE, NEXT, WRONG are TRIED: nothing changes by it");
        for (String scene : Scenes.ALL) {
            for (String call : new String[] {"couldBe", "next", "judge"}) {
                due.unchanged(scene, call);
            }
        }
        due.sentence("OLD and THE BOOK leave all else as it is");
        due.alike(Scenes.SEVEN + " | turn 3", Scenes.SEVEN + " | turn 3 | old 0 0 true | tear");
        due.alike(Scenes.SEVEN + " | turn 3", Scenes.SEVEN + " | turn 3 | write 0 0 | tear");
    }
}
