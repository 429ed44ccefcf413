/** Counts the answers that are not as due; a test ends with end(). */
final class Due {
    static final int NONE = -1, UNKNOWN = -1000000001, OUTSIDE = -1000000002, NOT = -1000000003, FULL = -1000000004;
    private static final int SHOWN = 40;
    private int asked = 0;
    private int wrong = 0;
    private String sentence = "";

    /** The document's words that the answers from here on are due by. */
    void sentence(String words) {
        sentence = "<" + words + "> ";
    }

    void is(String call, long got, long want) {
        asked++;
        if (got != want) {
            wrong++;
            if (wrong <= SHOWN) {
                System.out.println(sentence + call + " answered " + got + ", due is " + want);
            }
        }
    }

    /** On the scene (see Calls), made anew, the call answers this. */
    void answers(String scene, String call, int want) {
        is(scene + " | " + call, Calls.ask(Calls.scene(scene), call), want);
    }

    /** The call answers this refusal, and nothing that can be seen has changed by it. */
    void refused(String scene, String call, int want) {
        answers(scene, call, want);
        unchanged(scene, call);
    }

    void unchanged(String scene, String call) {
        alike(scene, scene + " | " + call);
    }

    /** Nothing that can be seen tells the scenes apart. */
    void alike(String scene, String other) {
        is(other + ", which is otherwise than " + scene + ":", Seen.of(other).equals(Seen.of(scene)) ? 1 : 0, 1);
    }

    /** The flags on the cord behind a scene, from PLACE 0 on, as figures. */
    void row(String scene, String want) {
        row(scene, Calls.scene(scene), want);
    }

    void end() {
        System.out.println(wrong == 0 ? asked + " answers are as due" : wrong + " of " + asked + " answers are not as due");
        if (wrong != 0 || asked == 0) {
            System.exit(1);
        }
    }

    /** The answer of cord() on this text. */
    static int tell(DayCords x, String text) {
        for (int i = 0; i < text.length(); i++) {
            x.feed(text.charAt(i));
        }
        return x.cord();
    }

    static DayCords told(String text) {
        DayCords x = new DayCords();
        if (tell(x, text) < 0) {
            throw new IllegalStateException("the test's own text has a fault: " + text);
        }
        return x;
    }

    /** The flags on the cord from place 0 on, as figures: "20" is flag 2, then flag 0. */
    static String row(DayCords x) {
        StringBuilder row = new StringBuilder();
        for (int p = 0; p <= 6 && x.at(p) != NONE; p++) {
            row.append(x.at(p));
        }
        return row.toString();
    }

    void row(String call, DayCords x, String want) {
        asked++;
        String got = row(x);
        if (!got.equals(want)) {
            wrong++;
            System.out.println(sentence + call + ": the row is " + got + ", due is " + want);
        }
    }

    /** A cord of these flags in this order: all are taken off and sewn on again. */
    static void hang(DayCords x, String row) {
        for (int f = 0; f < x.told(1); f++) {
            if (x.flag(f, 2) != NONE) {
                x.eat(f);
            }
        }
        for (int p = 0; p < row.length(); p++) {
            x.sew(row.charAt(p) - '0', p);
        }
    }
}
