import java.util.ArrayList;
import java.util.List;

/** Each bound of what is drawn, undone and kept: promises 17, 18 and 33 to 35. */
public final class UndoBoundsTest {
    private static final Due due = new Due();
    private static final String[] DEEDS = {"turn 7", "cut 3", "eat 2", "sew 6 1", "rain true", "rain false", "wind 0", "wind 9", "year 1", "drift 1"};
    private static final String BEFORE = Scenes.SEVEN + " | eat 6";
    private static final int[] FAR = {Integer.MIN_VALUE, -1000000001, 1000000, Integer.MAX_VALUE};

    public static void main(String[] args) {
        undoBounds();
        thirtyAreKept();
        eachDeedIsOne();
        eachYearIsOne();
        noDeeds();
        allOfSectionTwo();
        seedStays();
        sinceTextOrImage();
        refusedIsNotKept();
        seedBounds();
        drawsWrap();
        drawsOfFew();
        keepBounds();
        goBackBounds();
        imagesKeep();
        imagesAreApart();
        imagesWithoutCord();
        due.end();
    }

    private static void undoBounds() {
        due.sentence("18: The n latest (1 .. 30) are undone: YEARS. OUTSIDE, NOT: not so many.");
        for (String scene : Scenes.ALL) {
            due.refused(scene, "undo -1", Due.OUTSIDE);
            due.refused(scene, "undo 0", Due.OUTSIDE);
            due.refused(scene, "undo 31", Due.OUTSIDE);
            for (int n : FAR) {
                due.refused(scene, "undo " + n, Due.OUTSIDE);
            }
        }
        for (int many = 0; many <= 30; many++) {
            String scene = Scenes.BARE + " | " + many + " x year 1";
            if (many > 0) {
                due.answers(scene, "undo 1", many - 1);
                due.answers(scene, "undo " + many, 0);
                due.answers(scene + " | undo " + many, "told 19", 0);
            }
            if (many < 30) {
                due.refused(scene, "undo " + (many + 1), Due.NOT);
                due.refused(scene, "undo 30", Due.NOT);
            }
        }
        for (String scene : Scenes.WITHOUT_CORD) {
            due.refused(scene, "undo 1", Due.NOT);
            due.refused(scene, "undo 30", Due.NOT);
        }
    }

    private static void thirtyAreKept() {
        due.sentence("UNDONE: the latest deeds (30 at most are kept)");
        due.answers(Scenes.BARE + " | 29 x year 1", "undo 29", 0);
        due.refused(Scenes.BARE + " | 29 x year 1", "undo 30", Due.NOT);
        due.answers(Scenes.BARE + " | 30 x year 1", "undo 30", 0);
        due.answers(Scenes.BARE + " | 31 x year 1", "undo 30", 1);
        due.refused(Scenes.BARE + " | 31 x year 1 | undo 30", "undo 1", Due.NOT);
        due.answers(Scenes.BARE + " | 100 x year 1", "undo 30", 70);
        due.refused(Scenes.BARE + " | 100 x year 1 | undo 30", "undo 1", Due.NOT);
        // the rest of what is kept goes on behind what was undone
        due.answers(Scenes.BARE + " | 100 x year 1 | undo 10", "told 19", 20);
        due.answers(Scenes.BARE + " | 100 x year 1 | undo 10 | 10 x year 1", "undo 30", 70);
        due.answers(Scenes.BARE + " | 100 x year 1 | undo 10 | 11 x year 1", "undo 30", 71);
        due.answers(Scenes.BARE + " | 100 x year 1 | undo 10", "undo 20", 70);
        due.refused(Scenes.BARE + " | 100 x year 1 | undo 10", "undo 21", Due.NOT);
        for (int n = 1; n <= 30; n++) {
            due.answers(Scenes.BARE + " | 45 x year 1", "undo " + n, 45 - n);
            due.answers(Scenes.BARE + " | 45 x year 1 | undo " + n, "told 19", 30 - n);
        }
    }

    private static void eachDeedIsOne() {
        due.sentence("deeds (each YEAR, turn(), cut(), eat(), sew(), rain(), wind(), each YEAR BY DRAWS)");
        due.answers(BEFORE, "told 19", 1);
        for (String deed : DEEDS) {
            String call = deed.equals("turn 7") ? "turn 6" : deed;
            due.answers(BEFORE + " | " + call, "told 19", 2);
            due.row(BEFORE + " | " + call + " | undo 1", "012345");
            if (!call.startsWith("drift")) {
                due.alike(BEFORE, BEFORE + " | " + call + " | undo 1");
            }
        }
        // what changes nothing is a deed all the same
        due.answers(BEFORE + " | wind 5", "told 19", 2);
        due.answers(BEFORE + " | rain false", "told 19", 2);
    }

    private static void eachYearIsOne() {
        due.sentence("each YEAR .. each YEAR BY DRAWS");
        for (int n = 1; n <= 20; n++) {
            due.answers(Scenes.SEVEN + " | year " + n, "told 19", n);
            due.answers(Scenes.SEVEN + " | drift " + n, "told 19", n);
            due.answers(Scenes.SEVEN + " | year " + n, "undo 1", n - 1);
            due.answers(Scenes.SEVEN + " | drift " + n, "undo 1", n - 1);
            due.answers(Scenes.SEVEN + " | drift " + n, "undo " + n, 0);
            due.refused(Scenes.SEVEN + " | drift " + n, "undo " + (n + 1), Due.NOT);
        }
        due.answers(Scenes.SEVEN + " | year 20 | drift 10", "told 19", 30);
        due.answers(Scenes.SEVEN + " | year 20 | drift 11", "told 19", 30);
        due.answers(Scenes.SEVEN + " | year 20 | drift 11", "undo 30", 1);
        for (int n = 1; n < 20; n++) {
            due.alike(Scenes.SEVEN + " | year " + n, Scenes.SEVEN + " | year 20 | undo " + (20 - n));
        }
    }

    private static void noDeeds() {
        due.sentence("deeds (..) (no other call is one)");
        String[] calls = {"feed 32", "fault", "told 5", "flag 0 0", "at 0", "hook 0 0", "word 0 0", "turnings 0", "loose 0", "felt 9 9",
            "farthest 9", "hooked 1", "gap 0", "ends 0", "calm 1 1", "old 0 0 true", "couldBe", "next", "write 0 0", "judge", "tear", "seed 9", "tell x"};
        for (String call : calls) {
            due.answers(BEFORE + " | " + call, "told 19", 1);
            due.row(BEFORE + " | " + call + " | undo 1", "0123456");
        }
    }

    private static void allOfSectionTwo() {
        due.sentence("all of section 2 is as ahead of them");
        List<String> scenes = new ArrayList<>();
        scenes.add(Scenes.SEVEN);
        for (String deed : DEEDS) {
            String call = deed.startsWith("sew") ? "sew 2 1" : deed;
            scenes.add(scenes.get(scenes.size() - 1) + " | " + call.replace("drift 1", "year 1"));
        }
        String last = scenes.get(scenes.size() - 1);
        for (int n = 1; n < scenes.size(); n++) {
            due.alike(scenes.get(scenes.size() - 1 - n), last + " | undo " + n);
            due.alike(scenes.get(scenes.size() - 1 - n), last + " | " + n + " x undo 1");
        }
        due.sentence("(what is OLD, THE BOOK, THE TEXT are not of section 2)");
        due.answers(BEFORE + " | old 0 0 true | undo 1", "told 17", 1);
        due.answers(BEFORE + " | write 0 0 | undo 1", "told 18", 1);
        due.answers(BEFORE + " | feed 32 | undo 1", "told 4", 1);
        due.answers("tell x | " + BEFORE + " | tell x | undo 1", "fault", 0);
    }

    private static void seedStays() {
        due.sentence("UNDONE: .. THE SEED stays");
        due.answers(BEFORE + " | seed 99 | undo 1", "seed 0", 99);
        // the first DRAW of 0 is 0, so there is a second, of 10
        due.answers(Scenes.BARE + " | drift 1 | undo 1", "seed 0", draw(draw(0)));
        for (int seed = 0; seed < 12; seed++) {
            String scene = Scenes.SEVEN + " | seed " + seed + " | drift 5";
            int then = Calls.ask(Calls.scene(scene), "seed 0");
            due.answers(scene + " | undo 5", "seed 0", then);
            due.alike(Scenes.SEVEN + " | seed " + then, scene + " | undo 5");
        }
    }

    private static void sinceTextOrImage() {
        due.sentence("since the text or IMAGE");
        due.refused(BEFORE + " | tell y5;f0 1;", "undo 1", Due.NOT);
        due.refused(BEFORE + " | keep 0", "undo 1", Due.NOT);
        due.refused(BEFORE + " | keep 1", "undo 1", Due.NOT);
        due.refused(BEFORE + " | keep 0 | turn 2 | goBack 0", "undo 1", Due.NOT);
        due.refused(BEFORE + " | keep 0 | turn 2", "undo 2", Due.NOT);
        due.answers(BEFORE + " | keep 0 | turn 2", "undo 1", 0);
        due.row(BEFORE + " | keep 0 | turn 2 | undo 1", "012345");
        due.answers(BEFORE + " | keep 0 | 30 x turn 2 | goBack 0", "told 19", 0);
    }

    private static void refusedIsNotKept() {
        due.sentence("What is refused changes nothing.");
        for (String call : new String[] {"turn 8", "cut 7", "eat 7", "eat 6", "sew 0 0", "sew 6 7", "wind 10", "year 21", "drift 0", "undo 2", "undo 31",
            "keep 2", "goBack 2", "goBack 0", "seed -1"}) {
            due.unchanged(BEFORE, call);
            due.answers(BEFORE + " | " + call, "told 19", 1);
        }
    }

    private static int draw(int seed) {
        return (int) ((seed * 1103515245L + 12345L) % 2147483648L);
    }

    private static void seedBounds() {
        due.sentence("33: THE SEED becomes v (0 .. 2147483647): what it was. OUTSIDE.");
        for (int v : new int[] {0, 1, 65535, 65536, 2147483646, 2147483647}) {
            due.answers("", "seed " + v, 0);
            due.answers("seed " + v, "seed 0", v);
            due.answers(Scenes.SEVEN + " | seed " + v, "seed 0", v);
        }
        for (String scene : Scenes.ALL) {
            due.refused(scene, "seed -1", Due.OUTSIDE);
            due.refused(scene, "seed -2147483648", Due.OUTSIDE);
            due.refused(scene, "seed -1000000001", Due.OUTSIDE);
        }
        due.sentence("3: THE SEED stays");
        due.answers("seed 5 | " + Scenes.SEVEN, "seed 0", 5);
        due.answers("seed 5 | cord", "seed 0", 5);
        due.answers("seed 5 | tell y10;", "seed 0", 5);
    }

    private static void drawsWrap() {
        due.sentence("each DRAW it becomes it times 1103515245 and 12345, left over by 2 to the 31; / 65536, left over by n");
        // by hand: 0 becomes 12345, and 12345 / 65536 is 0, left over by 6: WIND is a DRAW of 10
        due.answers("tell y5; | drift 1", "seed 0", 1406932606);
        due.answers("tell y5; | drift 1", "told 6", 1406932606 / 65536 % 10);
        for (int v : new int[] {1, 2, 3, 65535, 65536, 1103515245, 1999999999, 2147483646, 2147483647}) {
            int first = draw(v);
            int lot = first / 65536 % 6;
            int second = draw(first);
            due.answers("tell y5; | seed " + v + " | drift 1", "seed 0", lot == 0 ? second : first);
            due.answers("tell y5; | seed " + v + " | drift 1", "told 6", lot == 0 ? second / 65536 % 10 : 5);
        }
        due.is("the greatest that is left over", draw(2147483647), (int) (new java.math.BigInteger("2147483647")
            .multiply(new java.math.BigInteger("1103515245")).add(java.math.BigInteger.valueOf(12345))
            .mod(java.math.BigInteger.ONE.shiftLeft(31)).longValueExact()));
    }

    /** The first seed whose first draw of 6 is this. */
    private static int seedOf(int lot) {
        int seed = 0;
        while (draw(seed) / 65536 % 6 != lot) {
            seed++;
        }
        return seed;
    }

    private static void drawsOfFew() {
        due.sentence("on 2, if there are two FLAGS or more on THE CORD, it is CUT at a DRAW of as many");
        int cuts = seedOf(2);
        for (int n = 0; n <= 7; n++) {
            String row = "0123456".substring(0, n);
            int place = n < 2 ? 0 : draw(draw(cuts)) / 65536 % n;
            String scene = "tell y5;" + "f0 9;".repeat(n) + " | seed " + cuts + " | drift 1";
            due.row(scene, row.substring(place) + row.substring(0, place));
            due.answers(scene, "seed 0", n < 2 ? draw(cuts) : draw(draw(cuts)));
        }
        due.sentence("on 3, if there are any, that at a DRAW of as many is EATEN");
        int eats = seedOf(3);
        for (int n = 0; n <= 7; n++) {
            String row = "0123456".substring(0, n);
            int place = n < 1 ? 0 : draw(draw(eats)) / 65536 % n;
            String scene = "tell y5;" + "f0 9;".repeat(n) + " | seed " + eats + " | drift 1";
            due.row(scene, n < 1 ? "" : row.substring(0, place) + row.substring(place + 1));
            due.answers(scene, "seed 0", n < 1 ? draw(eats) : draw(draw(eats)));
        }
        due.sentence("on 1 RAIN (ahead of each YEAR)");
        String rain = " | seed " + seedOf(1) + " | drift 1";
        due.answers("tell y3;f0 2;" + rain, "flag 0 3", 1);
        due.answers("tell y4;f0 2;" + rain, "flag 0 3", 2);
        due.answers("tell y4;f0 2;" + rain, "told 10", 0);
        due.sentence("a DRAW of 6 (on 4 and 5 nothing)");
        for (int lot = 4; lot <= 5; lot++) {
            String scene = Scenes.SEVEN + " | seed " + seedOf(lot);
            due.alike(Scenes.SEVEN + " | seed " + draw(seedOf(lot)) + " | year 1", scene + " | drift 1");
        }
    }

    private static void keepBounds() {
        due.sentence("34: IMAGE i becomes what is so (nothing can be undone then): 1. UNKNOWN.");
        for (String scene : Scenes.ALL) {
            due.answers(scene, "keep 0", 1);
            due.answers(scene, "keep 1", 1);
            due.answers(scene + " | keep 0", "told 19", 0);
            due.refused(scene, "keep -1", Due.UNKNOWN);
            due.refused(scene, "keep 2", Due.UNKNOWN);
            for (int i : FAR) {
                due.refused(scene, "keep " + i, Due.UNKNOWN);
            }
        }
        due.answers(Scenes.BRIMFUL, "told 19", 30);
        due.answers(Scenes.BRIMFUL + " | keep 1", "told 19", 0);
    }

    private static void goBackBounds() {
        due.sentence("35: What is so becomes IMAGE i (nothing can be undone then): 1. UNKNOWN, NOT: it was not kept.");
        for (String scene : Scenes.ALL) {
            due.refused(scene, "goBack -1", Due.UNKNOWN);
            due.refused(scene, "goBack 2", Due.UNKNOWN);
            for (int i : FAR) {
                due.refused(scene, "goBack " + i, Due.UNKNOWN);
            }
        }
        for (String scene : new String[] {Scenes.NEW, Scenes.BARE, Scenes.ONE, Scenes.SEVEN, Scenes.GONE}) {
            due.refused(scene, "goBack 0", Due.NOT);
            due.refused(scene, "goBack 1", Due.NOT);
        }
        due.answers(Scenes.WORKED, "goBack 0", 1);
        due.refused(Scenes.WORKED, "goBack 1", Due.NOT);
        due.answers(Scenes.SEVEN + " | keep 1", "goBack 1", 1);
        due.refused(Scenes.SEVEN + " | keep 1", "goBack 0", Due.NOT);
        due.answers(Scenes.WORKED + " | goBack 0", "told 19", 0);
        due.refused(Scenes.WORKED + " | goBack 0", "undo 1", Due.NOT);
        // kept, it stays kept
        due.answers(Scenes.WORKED + " | goBack 0 | turn 2", "goBack 0", 1);
        // a new text forgets it, a fault does not
        due.refused(Scenes.SEVEN + " | keep 0 | keep 1 | " + Scenes.SEVEN, "goBack 0", Due.NOT);
        due.refused(Scenes.SEVEN + " | keep 0 | keep 1 | " + Scenes.SEVEN, "goBack 1", Due.NOT);
        due.answers(Scenes.SEVEN + " | keep 0 | tell y10;", "goBack 0", 1);
    }

    private static void imagesKeep() {
        due.sentence("IMAGES 0, 1 keep all of section 2, THE SEED.");
        String then = Scenes.SEVEN + " | seed 77 | turn 5 | year 3 | rain true | eat 2 | sew 2 0 | eat 5 | wind 8";
        String since = " | seed 5 | turn 4 | year 20 | sew 5 0 | eat 1 | wind 1 | drift 20";
        for (int i = 0; i <= 1; i++) {
            due.alike(then + " | keep " + i, then + " | keep " + i + since + " | goBack " + i);
            due.answers(then + " | keep " + i + since + " | goBack " + i, "seed 0", 77);
            due.answers(then + " | keep " + i + since + " | goBack " + i, "told 5", 3);
            due.row(then + " | keep " + i + since + " | goBack " + i, "243106");
        }
        due.sentence("(what is OLD, THE BOOK, THE TEXT are not of section 2)");
        String kept = Scenes.SEVEN + " | keep 0 | old 0 0 true | write 0 0 | feed 32 | goBack 0";
        due.answers(kept, "told 17", 1);
        due.answers(kept, "told 18", 1);
        due.answers(kept, "told 4", 1);
    }

    private static void imagesAreApart() {
        due.sentence("IMAGES 0, 1");
        String both = Scenes.SEVEN + " | seed 1 | keep 0 | seed 2 | turn 7 | keep 1 | seed 3 | cut 3";
        due.row(both, "3210654");
        due.row(both + " | goBack 0", "0123456");
        due.row(both + " | goBack 1", "6543210");
        due.row(both + " | goBack 0 | goBack 1", "6543210");
        due.row(both + " | goBack 1 | goBack 0", "0123456");
        due.answers(both, "seed 0", 3);
        due.answers(both + " | goBack 0", "seed 0", 1);
        due.answers(both + " | goBack 1", "seed 0", 2);
        // the latest that was kept counts; deeds on what came back leave the image
        due.row(both + " | keep 0 | turn 2 | goBack 0", "3210654");
        due.row(both + " | goBack 0 | turn 3 | goBack 0", "0123456");
        due.row(both + " | keep 0 | goBack 1", "6543210");
    }

    private static void imagesWithoutCord() {
        due.sentence("34, 35 (no refusal is told for no CORD)");
        for (String scene : Scenes.WITHOUT_CORD) {
            due.answers(scene, "keep 0", 1);
            due.answers(scene + " | keep 0", "goBack 0", 1);
            due.answers(scene + " | keep 0 | goBack 0", "told 0", 0);
            due.answers("seed 9 | keep 0 | seed 1 | goBack 0", "seed 0", 9);
        }
        due.refused("keep 0 | tell y0;", "goBack 0", Due.NOT);
        due.answers("keep 0 | tell y10;", "goBack 0", 1);
    }
}
