/** Each bound that section 1 and promises 1 to 4 name, on both sides: a new object, feed, cord, fault. */
public final class TextBoundsTest {
    private static final Due due = new Due();
    private static final String Y = "tell y0;";
    private static final String[] WORDS = {"f0 1;", "w0;", "h0 0;"};

    public static void main(String[] args) {
        newObject();
        letters();
        everyLetter();
        textLength();
        lastLetterCounts();
        windNumber();
        windFirst();
        windOnce();
        flagsAtMost();
        flagKind();
        flagHeavy();
        wordsAtMost();
        kindsOfAWord();
        wordKind();
        hooksAtMost();
        hookPlace();
        hookReach();
        reachedPlaces();
        figures();
        blanks();
        noBlankWithinNumbers();
        numbersSideBySide();
        wordIsOneLetter();
        endOfText();
        leastAtOneLetter();
        firstLetterOfAll();
        emptyText();
        cordBegins();
        cordForgets();
        cordOfFault();
        faultLetter();
        due.end();
    }

    /** The text is good and tells so many flags. */
    private static void good(String text, int flags) {
        due.answers("", "tell " + text, flags);
        due.answers("tell " + text, "fault", Due.NONE);
        due.answers("tell " + text, "told 0", 1);
    }

    /** The text has this fault at this letter, for a new object and for one with a CORD; nothing comes of it. */
    private static void faulty(String text, int kind, int letter) {
        due.answers(Scenes.NEW, "tell " + text, -10 - kind);
        due.answers("tell " + text, "fault", letter);
        due.answers("tell " + text, "told 0", 0);
        due.answers("tell " + text, "told 4", 0);
        due.answers(Scenes.SEVEN, "tell " + text, -10 - kind);
        due.answers(Scenes.SEVEN + " | tell " + text, "fault", letter);
        due.answers(Scenes.SEVEN + " | tell " + text, "told 1", 7);
    }

    private static void newObject() {
        due.sentence("1: No CORD.");
        int[] told = {0, 0, 0, 0, 0, 0, 0, 0, 0, 0, 0, 0, 0, 0, 1, 0, 0, 0, 0, 0};
        for (int what = 0; what < told.length; what++) {
            due.answers("", "told " + what, told[what]);
        }
        due.answers("", "fault", Due.NONE);
        due.answers("", "flag 0 0", Due.UNKNOWN);
        due.answers("", "hook 0 0", Due.UNKNOWN);
        due.answers("", "word 0 0", Due.UNKNOWN);
        due.row("", "");
        due.answers("", "goBack 0", Due.NOT);
        due.answers("", "goBack 1", Due.NOT);
        due.answers("", "undo 1", Due.NOT);
        due.sentence("THE SEED (0 at first");
        due.answers("", "seed 1", 0);
    }

    private static void letters() {
        due.sentence("2: A letter (0 .. 255) .. OUTSIDE");
        due.answers("", "feed 0", 1);
        due.answers("", "feed 255", 1);
        for (String scene : Scenes.ALL) {
            due.refused(scene, "feed -1", Due.OUTSIDE);
            due.refused(scene, "feed 256", Due.OUTSIDE);
        }
        due.refused(Scenes.WORKED, "feed -2147483648", Due.OUTSIDE);
        due.refused(Scenes.WORKED, "feed 2147483647", Due.OUTSIDE);
        due.sentence("2: comes behind THE TEXT: how many it has");
        due.answers("feed 0", "feed 0", 2);
        due.answers("feed 0 | feed 256", "feed 0", 2);
        due.answers("type y0;", "told 4", 3);
        due.answers("type y0;", "cord", 0);
        due.answers("type y0; | type f0 1;", "cord", 1);
    }

    /** Only a blank, 'y' at first, and the four words behind it can begin a clause. */
    private static void everyLetter() {
        due.sentence("1 it cannot stand there (a letter that is no word, another word first than 'y'");
        for (int c = 0; c <= 255; c++) {
            String alone = "feed " + c + " | cord";
            String behind = "type y0; | feed " + c + " | cord";
            boolean word = c == 'f' || c == 'w' || c == 'h';
            due.answers("feed " + c, "cord", c == ' ' ? 0 : -11);
            due.answers(alone, "fault", c == ' ' ? Due.NONE : c == 'y' ? 1 : 0);
            due.answers(alone, "told 0", 0);
            due.answers("type y0; | feed " + c, "cord", c == ' ' ? 0 : c == 'y' ? -13 : -11);
            due.answers(behind, "fault", c == ' ' ? Due.NONE : word ? 4 : 3);
            boolean figure = c >= '0' && c <= '9';
            due.answers("type y | feed " + c + " | type 5;", "cord", c == ' ' || c == '0' ? 0 : figure ? -12 : -11);
            due.answers("type y5 | feed " + c + " | type ;", "cord", c == ' ' ? 0 : figure ? -12 : -11);
        }
    }

    private static void textLength() {
        due.sentence("2: FULL (240)");
        due.answers("239 x feed 32", "feed 32", 240);
        due.refused("240 x feed 32", "feed 32", Due.FULL);
        due.refused(Scenes.BRIMFUL, "feed 0", Due.FULL);
        due.refused(Scenes.BRIMFUL, "feed 255", Due.FULL);
        due.answers("240 x feed 32 | 5 x feed 121", "told 4", 240);
        due.answers("240 x feed 32 | feed 32 | cord", "feed 32", 1);
        due.answers("239 x feed 32", "told 4", 239);
    }

    private static void lastLetterCounts() {
        due.sentence("(240 letters at most)");
        due.answers("type y4; | 232 x feed 32 | type f1 2;", "told 4", 240);
        due.answers("type y4; | 232 x feed 32 | type f1 2;", "cord", 1);
        due.answers("type y4; | 233 x feed 32 | type f1 2;", "told 4", 240);
        due.answers("type y4; | 233 x feed 32 | type f1 2;", "cord", -11);
        due.answers("type y4; | 233 x feed 32 | type f1 2; | cord", "fault", 240);
        due.answers("239 x feed 32 | feed 120 | cord", "fault", 239);
        due.answers("239 x feed 32 | feed 120", "cord", -11);
        due.answers("type y0; | 236 x feed 32 | type y | cord", "fault", 239);
        due.answers("type y0; | 236 x feed 32 | type y", "cord", -13);
        due.answers("type y0; | 235 x feed 32 | type f9", "cord", -12);
        due.answers("type y0; | 235 x feed 32 | type f9 | cord", "fault", 239);
        due.answers("type y | 237 x feed 32 | type 3;", "cord", 0);
        due.answers("type y | 238 x feed 32 | type 3", "cord", -11);
    }

    private static void windNumber() {
        due.sentence("WIND W, 0 .. 9");
        for (int w = 0; w <= 9; w++) {
            good("y" + w + ";", 0);
            due.answers("tell y" + w + ";", "told 6", w);
        }
        faulty("y10;", 2, 1);
        faulty("y 99;", 2, 2);
        faulty("y999;", 2, 1);
        faulty("y-1;", 1, 1);
    }

    private static void windFirst() {
        due.sentence("another word first than 'y'");
        for (String word : WORDS) {
            faulty(word, 1, 0);
            faulty("  " + word, 1, 2);
            faulty(word + "y0;", 1, 0);
            faulty(word.substring(0, 1), 1, 0);
        }
        good("y0;", 0);
        good("  y0;f0 1;", 1);
    }

    private static void windOnce() {
        due.sentence("3 'y' again");
        faulty("y0;y0;", 3, 3);
        faulty("y0;y", 3, 3);
        faulty("y0;  y0;", 3, 5);
        for (String word : WORDS) {
            faulty("y0;" + word + "y0;", 3, 3 + word.length());
        }
        faulty(Scenes.TEXT + "y5;", 3, Scenes.TEXT.length());
    }

    private static void flagsAtMost() {
        due.sentence("7 FLAGS at most, in their RIGHT order, all on THE CORD so at first");
        for (int n = 0; n <= 7; n++) {
            String text = "y0;" + "f0 1;".repeat(n);
            good(text, n);
            due.answers("tell " + text, "told 1", n);
            due.answers("tell " + text, "told 8", (1 << n) - 1);
            due.answers("tell " + text, "told 11", 1);
            due.row("tell " + text, "0123456".substring(0, n));
        }
        due.sentence("3 .. an eighth 'f' .. (at it)");
        faulty("y0;" + "f0 1;".repeat(8), 3, 38);
        faulty("y0;" + "f0 1;".repeat(7) + "  f", 3, 40);
        faulty(Scenes.TEXT + "f", 3, Scenes.TEXT.length());
        good("y0;" + "f0 1;".repeat(7) + "w0;h0 0;", 7);
    }

    private static void flagKind() {
        due.sentence("KIND K, 0 .. 5");
        for (int k = 0; k <= 5; k++) {
            good("y0;f" + k + " 1;", 1);
            due.answers("tell y0;f" + k + " 1;", "flag 0 0", k);
        }
        faulty("y0;f6 1;", 2, 4);
        faulty("y0;f999 1;", 2, 4);
        faulty("y0;f-1 1;", 1, 4);
    }

    private static void flagHeavy() {
        due.sentence("HEAVY by M, 1 .. 9");
        for (int m = 1; m <= 9; m++) {
            good("y0;f0 " + m + ";", 1);
            due.answers("tell y0;f0 " + m + ";", "flag 0 1", m);
        }
        faulty("y0;f0 0;", 2, 6);
        faulty("y0;f0 000;", 2, 6);
        faulty("y0;f0 10;", 2, 6);
        faulty("y0;f0 999;", 2, 6);
    }

    private static void wordsAtMost() {
        due.sentence("6 WORDS at most .. 3 .. a seventh 'w' .. (at it)");
        for (int n = 0; n <= 6; n++) {
            String text = "y0;" + "w0;".repeat(n);
            good(text, 0);
            due.answers("tell " + text, "told 2", n);
        }
        faulty("y0;" + "w0;".repeat(7), 3, 21);
        faulty("y0;" + "w0;".repeat(6) + " w", 3, 22);
        good("y0;" + "w0;".repeat(6) + "f0 1;h0 0;", 1);
    }

    private static void kindsOfAWord() {
        due.sentence("KINDS in order, 1 to 4 numbers");
        faulty("y0;w;", 1, 4);
        faulty("y0;w ;", 1, 5);
        for (int n = 1; n <= 4; n++) {
            String scene = "tell y0;w" + "5,4,3,2".substring(0, 2 * n - 1) + ";";
            due.answers(scene, "told 2", 1);
            for (int k = 0; k < 4; k++) {
                due.answers(scene, "word 0 " + k, k < n ? 5 - k : Due.NONE);
            }
        }
        due.sentence("a fifth K of 'w': at its ','");
        faulty("y0;w5,4,3,2,1;", 1, 11);
        faulty("y0;w5,4,3,2 , 1;", 1, 12);
        faulty("y0;w5,4,3,2,", 1, 11);
        faulty("y0;w5,4,3,2,9999;", 1, 11);
        faulty("y0;w000,000,000,000,", 1, 19);
        faulty("y0;w5,4,3,2;w5,4,3,2,1;", 1, 20);
    }

    private static void wordKind() {
        due.sentence("KIND K, 0 .. 5 (of 'w')");
        for (int place = 0; place < 4; place++) {
            for (int k = 0; k <= 5; k++) {
                String scene = "tell y0;w" + "0,".repeat(place) + k + ";";
                due.answers(scene, "word 0 " + place, k);
                due.answers(scene, "fault", Due.NONE);
            }
            faulty("y0;w" + "0,".repeat(place) + "6;", 2, 4 + 2 * place);
            faulty("y0;w" + "0,".repeat(place) + "999", 2, 4 + 2 * place);
            faulty("y0;w" + "0,".repeat(place) + ";", 1, 4 + 2 * place);
        }
    }

    private static void hooksAtMost() {
        due.sentence("5 HOOKS at most .. 3 .. a sixth 'h' (at it)");
        for (int n = 0; n <= 5; n++) {
            String text = "y0;" + "h0 0;".repeat(n);
            good(text, 0);
            due.answers("tell " + text, "told 3", n);
        }
        faulty("y0;" + "h0 0;".repeat(6), 3, 28);
        faulty("y0;" + "h0 0;".repeat(5) + " h", 3, 29);
        good("y0;" + "h0 0;".repeat(5) + "f0 1;w0;", 1);
    }

    private static void hookPlace() {
        due.sentence("at PLACE P, 0 .. 6");
        for (int p = 0; p <= 6; p++) {
            due.answers("tell y0;h" + p + " 3;", "hook 0 0", p);
        }
        faulty("y0;h7 0;", 2, 4);
        faulty("y0;h999 0;", 2, 4);
        faulty("y0;h-1 0;", 1, 4);
    }

    private static void hookReach() {
        due.sentence("R 0 .. 6");
        for (int r = 0; r <= 6; r++) {
            due.answers("tell y0;h3 " + r + ";", "hook 0 1", r);
        }
        faulty("y0;h0 7;", 2, 6);
        faulty("y0;h0 999;", 2, 6);
        faulty("y0;h0 -1;", 1, 6);
    }

    private static void reachedPlaces() {
        due.sentence("reaches PLACES P less R to P and R");
        for (int p = 0; p <= 6; p++) {
            for (int r = 0; r <= 6; r++) {
                int reached = 0;
                for (int place = Math.max(0, p - r); place <= Math.min(6, p + r); place++) {
                    reached |= 1 << place;
                }
                due.answers("tell y0;" + Scenes.FLAGS + "h" + p + " " + r + ";", "hook 0 2", reached);
            }
        }
    }

    private static void figures() {
        due.sentence("NUMBERS have one to three figures .. 2 a NUMBER of four figures or more .. (at its first)");
        String text = "y5;f1 2;w3,4,5,2;h5 6;";
        for (int i = 0; i < text.length(); i++) {
            if (Character.isDigit(text.charAt(i))) {
                String front = text.substring(0, i);
                String rest = text.substring(i);
                due.alike("tell " + text, "tell " + front + "0" + rest);
                due.alike("tell " + text, "tell " + front + "00" + rest);
                faulty(front + "000" + rest, 2, i);
                faulty(front + "0000" + rest, 2, i);
                faulty(front + "1000" + rest, 2, i);
                faulty(front + "99999999999999999999" + rest, 2, i);
                faulty(front + "4294967296" + rest, 2, i);
                faulty(front + "000", i == 6 ? 2 : 1, i == 6 ? i : i + 3);
                faulty(front + "0000", 2, i);
            }
        }
    }

    private static void blanks() {
        due.sentence("blanks (32) may stand anywhere but within NUMBERS");
        String text = "y5;f1 2;w3,4,5,2;h5 6;";
        for (int i = 0; i <= text.length(); i++) {
            due.alike("tell " + text, "type " + text.substring(0, i) + " | feed 32 | type " + text.substring(i) + " | cord");
            due.alike("tell " + text, "type " + text.substring(0, i) + " | 9 x feed 32 | type " + text.substring(i) + " | cord");
        }
        due.alike("tell " + text, "tell  y  5 ; f  1   2 ; w 3 , 4 , 5 , 2 ; h 5  6 ; ");
        for (int c : new int[] {0, 9, 10, 13, 31, 33, 160, 255}) {
            due.answers("type y | feed " + c + " | type 5;", "cord", -11);
            due.answers("type y | feed " + c + " | type 5; | cord", "fault", 1);
        }
    }

    private static void noBlankWithinNumbers() {
        due.sentence("blanks (32) may stand anywhere but within NUMBERS (two of them then)");
        faulty("y0 5;", 1, 3);
        faulty("y0;f0 1 2;", 1, 8);
        faulty("y0;w0 1;", 1, 6);
        faulty("y0;w0,0 1;", 1, 8);
        faulty("y0;h0 1 2;", 1, 8);
    }

    private static void numbersSideBySide() {
        due.sentence("two NUMBERS side by side need one");
        good("y0;f0 1;h0 1;", 1);
        good("y0;f0  1;h0  1;", 1);
        faulty("y0;f01;", 1, 6);
        faulty("y0;f51;", 2, 4);
        faulty("y0;h01;", 1, 6);
        faulty("y0;h61;", 2, 4);
    }

    private static void wordIsOneLetter() {
        due.sentence("a word is one letter");
        faulty("yy0;", 1, 1);
        faulty("y0;ff0 1;", 1, 4);
        faulty("y0;wf0;", 1, 4);
        faulty("y0;hh0 0;", 1, 4);
        faulty("Y0;", 1, 0);
        faulty("y0;F0 1;", 1, 3);
    }

    /** Every text that ends within a clause has its fault behind its last letter. */
    private static void endOfText() {
        due.sentence("the end at the text's length");
        String text = "y5;f1 2;w3,4,5,2;h5 6;";
        for (int length = 1; length < text.length(); length++) {
            String front = text.substring(0, length);
            if (front.endsWith(";")) {
                good(front, front.length() > 3 ? 1 : 0);
            } else {
                faulty(front, 1, length);
                due.answers("type " + front + " | 3 x feed 32 | cord", "fault", length + 3);
            }
        }
    }

    private static void leastAtOneLetter() {
        due.sentence("at the first letter that has one .. of these the least");
        // 1 and 2: a number that may not stand there, and is none that could
        faulty("9999", 1, 0);
        faulty("y0;9999", 1, 3);
        faulty("y0 9999;", 1, 3);
        faulty("y0;f0 1 9999;", 1, 8);
        faulty("y0;w0 9999;", 1, 6);
        faulty("y0;h0 0 9999;", 1, 8);
        // 1 and 3: one too many that may not stand there
        faulty("y0 y", 1, 3);
        faulty("yy", 1, 1);
        faulty("y0;" + "f0 1;".repeat(6) + "f0 1f", 1, 37);
        faulty("y0;" + "w0;".repeat(5) + "w0w", 1, 20);
        faulty("y0;" + "h0 0;".repeat(4) + "h0 0h", 1, 27);
    }

    private static void firstLetterOfAll() {
        due.sentence("at the first letter that has one");
        faulty("y10x", 2, 1);
        faulty("y10", 2, 1);
        faulty("y0;f6;", 2, 4);
        faulty("y0;f6 0;", 2, 4);
        faulty("y0;y10;x", 3, 3);
        faulty("y0;" + "f0 1;".repeat(7) + "f9 0x", 3, 38);
        faulty("y0;w0,6,x;", 2, 6);
        faulty("x10;y", 1, 0);
    }

    private static void emptyText() {
        due.sentence("An empty text: no CORD.");
        due.answers("", "cord", 0);
        due.alike("", "cord");
        due.answers("cord", "fault", Due.NONE);
        due.answers("tell y10;", "cord", 0);
        due.alike("", "tell y10; | cord");
        for (String scene : new String[] {Scenes.BARE, Scenes.ONE, Scenes.SEVEN}) {
            due.answers(scene, "cord", 0);
            due.alike("", scene + " | cord");
        }
        due.alike("seed 1234", Scenes.GONE);
        due.alike("seed 2147483647", Scenes.BRIMFUL + " | cord");
        // blanks alone tell nothing either
        due.answers("", "tell  ", 0);
        due.alike("", "tell  ");
        due.alike("", Scenes.SEVEN + " | 9 x feed 32 | cord");
    }

    private static void cordBegins() {
        due.sentence("3: YEAR 0, all on it in their order, dry, not FADED, WIND as told: how many FLAGS");
        String again = "tell y2;f1 1;f0 2;f0 3;w1;h0 0;";
        for (String scene : new String[] {Scenes.BARE, Scenes.ONE, Scenes.SEVEN}) {
            due.answers(scene, again, 3);
            due.alike(again, scene + " | " + again);
            due.alike(again, scene + " | 2 x wind 9 | rain true | year 20 | keep 0 | old 0 0 true | write 0 -1 | " + again);
        }
        due.alike(again, Scenes.SEVEN + " | turn 7 | " + again);
        due.alike(again, Scenes.SEVEN + " | cut 3 | " + again);
        due.alike(again, Scenes.SEVEN + " | eat 0 | eat 1 | eat 2 | " + again);
        due.alike(again, Scenes.SEVEN + " | year 9 | eat 0 | eat 1 | eat 2 | sew 1 0 | sew 0 0 | sew 2 0 | rain true | " + again);
        due.sentence("3: THE TEXT (it is empty then");
        due.answers(Scenes.SEVEN, "told 4", 0);
        due.answers(Scenes.SEVEN, "feed 32", 1);
    }

    private static void cordForgets() {
        due.sentence("3: nothing OLD, no BOOK; IMAGES, what could be undone are gone; THE SEED stays");
        String again = "tell y2;f1 1;f0 2;f0 3;";
        String full = Scenes.SEVEN + " | seed 77 | keep 0 | keep 1 | 30 x turn 2 | 6 x old 0 0 true | 20 x write 0 0 | " + again;
        due.answers(full, "told 17", 0);
        due.answers(full, "told 18", 0);
        due.answers(full, "tear", 0);
        due.answers(full, "judge", Due.NONE);
        due.answers(full, "goBack 0", Due.NOT);
        due.answers(full, "goBack 1", Due.NOT);
        due.answers(full, "told 19", 0);
        due.answers(full, "undo 1", Due.NOT);
        due.answers(full, "old 0 0 true", 1);
        due.answers(full, "write 0 0", 1);
        due.alike("seed 77 | " + again, full);
    }

    private static void cordOfFault() {
        due.sentence("3: -10 less the number of its FAULT (all is as it was)");
        due.answers("", "tell y;", -11);
        due.answers("", "tell y10;", -12);
        due.answers("", "tell y0;y", -13);
        // the fault is the same one as before, so that nothing at all may differ
        for (String scene : new String[] {Scenes.NEW, Scenes.BARE, Scenes.ONE, Scenes.SEVEN, Scenes.WORKED + " | cord"}) {
            String faulted = scene.isEmpty() ? "tell y9;f1 1;w1;h1 1;f9" : scene + " | tell y9;f1 1;w1;h1 1;f9";
            due.unchanged(faulted, "tell y9;f1 1;w1;h1 1;f9");
            due.unchanged(faulted, "tell y9;f1 1;f1 1;w1,1;9999 | tell y9;f1 1;w1;h1 1;f9");
        }
        due.sentence("3: it is empty then, with a FAULT, too");
        due.answers("tell y;", "told 4", 0);
        due.answers("tell y;", "feed 32", 1);
        due.answers("tell y;", "tell y3;", 0);
    }

    private static void faultLetter() {
        due.sentence("4: The letter of the FAULT of the latest cord(); NONE.");
        due.answers("", "fault", Due.NONE);
        due.answers("type x", "fault", Due.NONE);
        due.answers("tell x", "fault", 0);
        due.answers("tell x | tell y5;x", "fault", 3);
        due.answers("tell x | tell y5;", "fault", Due.NONE);
        due.answers("tell x | cord", "fault", Due.NONE);
        due.answers("tell y5;x | type y10;", "fault", 3);
        due.answers(Scenes.SEVEN + " | tell x | turn 3 | keep 0 | goBack 0 | tear | undo 1", "fault", 0);
        due.answers("type y | 239 x feed 32 | cord", "fault", 240);
        due.unchanged(Scenes.WORKED, "fault");
        due.unchanged("tell y5;x", "fault");
    }
}
