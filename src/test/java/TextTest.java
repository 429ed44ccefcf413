/** Promises 1 to 5: a new object, feed, cord, fault, told; and the text of section 1. */
public final class TextTest {
    private static final Due due = new Due();

    public static void main(String[] args) {
        newObject();
        feeding();
        goodTexts();
        faultsOfKind1();
        faultsOfKind2();
        faultsOfKind3();
        leastOfSeveral();
        emptyTexts();
        faultChangesNothing();
        nothingIsLeftOfALongerText();
        newCordClears();
        telling();
        whatItSays();
        due.end();
    }

    private static void newObject() {
        int[] want = {0, 0, 0, 0, 0, 0, 0, 0, 0, 0, 0, 0, 0, 0, 1, 0, 0, 0, 0, 0};
        DayCords x = new DayCords();
        for (int what = 0; what < want.length; what++) {
            due.is("new: told(" + what + ")", x.told(what), want[what]);
        }
        due.is("new: fault()", x.fault(), Due.NONE);
        due.is("new: flag(0, 0)", x.flag(0, 0), Due.UNKNOWN);
        due.is("new: flag(0, 9)", x.flag(0, 9), Due.UNKNOWN);
        due.is("new: hook(0, 0)", x.hook(0, 0), Due.UNKNOWN);
        due.is("new: word(0, 0)", x.word(0, 0), Due.UNKNOWN);
        due.is("new: at(0)", x.at(0), Due.NONE);
        due.is("new: seed(5)", x.seed(5), 0);
        due.is("new: turnings(0)", x.turnings(0), 0);
        due.is("new: turnings(1)", x.turnings(1), Due.NONE);
        due.is("new: loose(0)", x.loose(0), 0);
        due.is("new: hooked(0)", x.hooked(0), 0);
        due.is("new: hooked(1)", x.hooked(1), Due.UNKNOWN);
        due.is("new: gap(0)", x.gap(0), 0);
        due.is("new: gap(1)", x.gap(1), Due.OUTSIDE);
        due.is("new: ends(0)", x.ends(0), 1000);
        due.is("new: ends(1)", x.ends(1), Due.NONE);
        due.is("new: felt(9, 7)", x.felt(9, 7), 9);
        due.is("new: farthest(99)", x.farthest(99), Due.NONE);
        due.is("new: couldBe()", x.couldBe(), 0);
        due.is("new: next()", x.next(), Due.NONE);
        due.is("new: goBack(0)", x.goBack(0), Due.NOT);
    }

    private static void feeding() {
        DayCords x = new DayCords();
        due.is("feed(-1)", x.feed(-1), Due.OUTSIDE);
        due.is("feed(256)", x.feed(256), Due.OUTSIDE);
        due.is("feed(0)", x.feed(0), 1);
        due.is("feed(255)", x.feed(255), 2);
        for (int i = 3; i <= 240; i++) {
            due.is("feed " + i, x.feed(' '), i);
        }
        due.is("feed 241", x.feed(' '), Due.FULL);
        due.is("feed 241, outside", x.feed(256), Due.OUTSIDE);
        due.is("told(4)", x.told(4), 240);
        due.is("cord()", x.cord(), -11);
        due.is("told(4) behind cord()", x.told(4), 0);
        due.is("feed behind cord()", x.feed('y'), 1);
    }

    private static void goodTexts() {
        good("y0;", 0);
        good(" y 9 ; ", 0);
        good("y009;f005 001;", 1);
        good("y0;f0 1;f0 1;f0 1;f0 1;f0 1;f0 1;f0 1;", 7);
        good("y0 ; f 0   1 ; w 0 , 1 , 2 ,3; h 6 6 ;", 1);
        good("y0;h0 0;f5 9;w5;f0 1;h6 0;", 2);
        good("y0;w0;w0;w0;w0;w0;w0;h0 0;h0 0;h0 0;h0 0;h0 0;", 0);
        DayCords x = Due.told("y 7;f5 9;h6 5;w 1,2,3,4;f0 1;h0 6;w5;h 1 0;");
        due.is("flags", x.told(1), 2);
        due.is("words", x.told(2), 2);
        due.is("hooks", x.told(3), 3);
        due.is("wind", x.told(6), 7);
        due.is("kind", x.flag(0, 0), 5);
        due.is("heavy", x.flag(1, 1), 1);
        due.is("word 0, 3", x.word(0, 3), 4);
        due.is("word 1, 1", x.word(1, 1), Due.NONE);
        due.is("hook 1", x.hook(1, 1), 6);
        // a text as long as it may be
        StringBuilder full = new StringBuilder("y4;");
        while (full.length() < 235) {
            full.append(' ');
        }
        good(full.append("f1 2;").toString(), 1);
        faulty(full.substring(0, 239), 1, 239);
    }

    private static void faultsOfKind1() {
        faulty("f0 1;", 1, 0);
        faulty("w0;", 1, 0);
        faulty("h0 0;", 1, 0);
        faulty("  h0 0;", 1, 2);
        faulty("5;", 1, 0);
        faulty(";", 1, 0);
        faulty(",", 1, 0);
        faulty("Y0;", 1, 0);
        faulty("y", 1, 1);
        faulty("y  ", 1, 3);
        faulty("y;", 1, 1);
        faulty("y5", 1, 2);
        faulty("y5  ", 1, 4);
        faulty("y5,", 1, 2);
        faulty("y5f0 1;", 1, 2);
        faulty("y1 0;", 1, 3);
        faulty("y-1;", 1, 1);
        faulty("y0;x", 1, 3);
        faulty("y0;;", 1, 3);
        faulty("y0;9", 1, 3);
        faulty("y0;\t", 1, 3);
        faulty("y0;" + (char) 0, 1, 3);
        faulty("y0;" + (char) 160, 1, 3);
        faulty("y0;f", 1, 4);
        faulty("y0;f0", 1, 5);
        faulty("y0;f0;", 1, 5);
        faulty("y0;f05;", 1, 6);
        faulty("y0;f0,1;", 1, 5);
        faulty("y0;f0 1", 1, 7);
        faulty("y0;f0 1 1;", 1, 8);
        faulty("y0;f0 1,", 1, 7);
        faulty("y0;w", 1, 4);
        faulty("y0;w;", 1, 4);
        faulty("y0;w,0;", 1, 4);
        faulty("y0;w0 1;", 1, 6);
        faulty("y0;w0,,1;", 1, 6);
        faulty("y0;w0,;", 1, 6);
        faulty("y0;w0,", 1, 6);
        faulty("y0;w0,0,0,0,0;", 1, 11);
        faulty("y0;w0,0,0,0 , 9999;", 1, 12);
        faulty("y0;w0,0,0,0", 1, 11);
        faulty("y0;h0;", 1, 5);
        faulty("y0;h0 0", 1, 7);
        faulty("y0;h0 0 0;", 1, 8);
        faulty("y0;h0 -1;", 1, 6);
    }

    private static void faultsOfKind2() {
        faulty("y10;", 2, 1);
        faulty("y10", 2, 1);
        faulty("y 999x", 2, 2);
        faulty("y0000;", 2, 1);
        faulty("y00000000000000000000000001;", 2, 1);
        faulty("y4294967296;", 2, 1);
        faulty("y0;f6 1;", 2, 4);
        faulty("y0;f6;", 2, 4);
        faulty("y0;f 0 0;", 2, 7);
        faulty("y0;f0 10;", 2, 6);
        faulty("y0;f0 0001;", 2, 6);
        faulty("y0;f0000 0;", 2, 4);
        faulty("y0;f01;", 1, 6);
        faulty("y0;f51;", 2, 4);
        faulty("y0;w6;", 2, 4);
        faulty("y0;w5,6;", 2, 6);
        faulty("y0;w0,0,0, 0000;", 2, 11);
        faulty("y0;h7 0;", 2, 4);
        faulty("y0;h0 7;", 2, 6);
        faulty("y0;h6 6;h 6 0006;", 2, 12);
    }

    private static void faultsOfKind3() {
        faulty("y0;y0;", 3, 3);
        faulty("y0; y", 3, 4);
        faulty("y0;f0 1;y", 3, 8);
        faulty("y0;f0 1;f0 1;f0 1;f0 1;f0 1;f0 1;f0 1;f", 3, 38);
        faulty("y0;w0;w0;w0;w0;w0;w0; w9;", 3, 22);
        faulty("y0;h0 0;h0 0;h0 0;h0 0;h0 0;h0 0;", 3, 28);
    }

    private static void leastOfSeveral() {
        // a number that may not stand there is not looked at further
        faulty("y0 10;", 1, 3);
        faulty("9999", 1, 0);
        faulty("y0;9999", 1, 3);
        faulty("y0;f0 1 9999;", 1, 8);
        // the first letter counts, not the least number
        faulty("y10;x", 2, 1);
        faulty("y0;y;x", 3, 3);
        faulty("y0;f6 x", 2, 4);
    }

    private static void emptyTexts() {
        DayCords x = Due.told("y3;f0 1;f0 1;w0;h0 0;");
        x.keep(0);
        x.eat(0);
        x.old(0, 0, true);
        x.write(0, 0);
        x.seed(77);
        due.is("cord() of an empty text", x.cord(), 0);
        for (int what : new int[] {0, 1, 2, 3, 5, 6, 7, 8, 9, 10, 11, 12, 17, 18, 19}) {
            due.is("no cord: told(" + what + ")", x.told(what), 0);
        }
        due.is("no cord: fault()", x.fault(), Due.NONE);
        due.is("no cord: goBack(0)", x.goBack(0), Due.NOT);
        due.is("no cord: seed(1)", x.seed(1), 77);
        due.is("no cord: rain(true)", x.rain(true), Due.NOT);
        due.is("cord() of blanks", Due.tell(x, "   "), 0);
        due.is("blanks: told(0)", x.told(0), 0);
        due.is("blanks: fault()", x.fault(), Due.NONE);
        due.is("a cord without flags", Due.tell(x, "y4;"), 0);
        due.is("without flags: told(0)", x.told(0), 1);
        due.is("without flags: told(6)", x.told(6), 4);
        due.is("without flags: told(11)", x.told(11), 1);
        due.is("without flags: told(13)", x.told(13), 0);
        due.is("without flags: told(14)", x.told(14), 1);
        due.is("without flags: told(15)", x.told(15), 0);
    }

    private static void faultChangesNothing() {
        DayCords x = Due.told("y3;f0 1;f1 2;w0;h0 0;");
        x.keep(1);
        x.turn(2);
        x.old(1, 1, false);
        x.write(6, Due.NONE);
        due.is("cord() with a fault", Due.tell(x, "y9;f0 1;f0 1;f0 1;w;"), -11);
        due.is("fault()", x.fault(), 19);
        due.is("fault() again", x.fault(), 19);
        int[] want = {1, 2, 1, 1, 0, 0, 3, 2, 3, 3, 0, 0, 1, 1, 0, -1, 2, 1, 1, 1};
        for (int what = 0; what < want.length; what++) {
            due.is("behind a fault: told(" + what + ")", x.told(what), want[what]);
        }
        due.is("undo(1)", x.undo(1), 0);
        due.row("undone", x, "01");
        due.is("goBack(1)", x.goBack(1), 1);
        due.is("feed goes on", x.feed('y'), 1);
        due.is("fault() stays", x.fault(), 19);
        due.is("cord()", x.cord(), -11);
        due.is("fault() of the latest", x.fault(), 1);
        due.is("cord()", Due.tell(x, "y1;"), 0);
        due.is("fault() of none", x.fault(), Due.NONE);
    }

    private static void nothingIsLeftOfALongerText() {
        DayCords x = new DayCords();
        for (String text : new String[] {"y5", "y", "y5;f0 5", "y5;w1", "y5;w1,", "y5;w"}) {
            due.is("a longer text", Due.tell(x, "y5;f0 5;f0 5;"), 2);
            due.is("then '" + text + "'", Due.tell(x, text), -11);
            due.is("fault()", x.fault(), text.length());
            due.is("a longer text of figures", Due.tell(x, text + "5555555"), -12);
            due.is("then '" + text + "'", Due.tell(x, text), -11);
            due.is("fault()", x.fault(), text.length());
        }
        due.is("a longer text", Due.tell(x, "y5;   ;"), -11);
        due.is("then a shorter one", Due.tell(x, "y5;"), 0);
        // a number at the last letter that there can be
        String full = "y5;" + " ".repeat(235) + "f3";
        due.is("240 letters", Due.tell(x, full), -11);
        due.is("fault()", x.fault(), 240);
    }

    private static void newCordClears() {
        DayCords x = Due.told("y9;f0 1;f2 2;f0 3;");
        x.seed(1234);
        x.keep(0);
        x.keep(1);
        x.eat(2);
        x.sew(2, 0);
        x.year(3);
        x.rain(true);
        x.old(0, 1, true);
        x.write(0, 0);
        due.is("cord()", Due.tell(x, "y2;f1 1;f0 2;f0 3;f3 4;"), 4);
        int[] want = {1, 4, 0, 0, 0, 0, 2, 4, 15, 3, 0, 1, 0, 0, 0, -1, 0, 0, 0, 0};
        for (int what = 0; what < want.length; what++) {
            due.is("a new cord: told(" + what + ")", x.told(what), want[what]);
        }
        for (int f = 0; f < 4; f++) {
            due.is("place of " + f, x.flag(f, 2), f);
            due.is("faded " + f, x.flag(f, 3), 0);
            due.is("sewn " + f, x.flag(f, 4), 0);
        }
        due.is("goBack(0)", x.goBack(0), Due.NOT);
        due.is("goBack(1)", x.goBack(1), Due.NOT);
        due.is("undo(1)", x.undo(1), Due.NOT);
        due.is("seed(0)", x.seed(0), 1234);
    }

    private static void telling() {
        DayCords x = Due.told("y5;f0 5;f1 6;f4 4;f4 3;f5 9;w0,1;w4;w4,4;w5;h0 0;");
        due.is("told(9): the blue one is heavy and out", x.told(9), 0b11101);
        x.rain(true);
        due.is("told(10) wet", x.told(10), 31);
        due.is("told(9) wet: washing never", x.told(9), 0b10000);
        x.wind(7);
        due.is("told(9): 2 more for a wet one", x.told(9), 0b10001);
        x.eat(0);
        due.is("told(9) is of those on the cord", x.told(9), 0b10000);
        due.is("told(10) is of those on the cord", x.told(10), 0b11110);
        x.wind(0);
        due.is("told(9) in no wind", x.told(9), 0);
        due.is("told(7)", x.told(7), 4);
        due.is("told(8)", x.told(8), 30);
        due.is("told(14): a 1 that no word begins with", x.told(14), 0);
        due.is("told(15)", x.told(15), Due.NONE);
        due.is("told(16): the pair begins at 1 too", x.told(16), 0b1110);
        x.sew(0, 0);
        due.is("told(14)", x.told(14), 2);
        due.is("told(15)", x.told(15), 1224);
        due.is("told(16)", x.told(16), 0b11101);
        due.is("told(19)", x.told(19), 5);
        x.cut(2);
        due.row("cut", x, "23401");
        due.is("told(11)", x.told(11), 0);
        due.is("told(12)", x.told(12), 6);
        due.is("told(13)", x.told(13), 3);
        x.turn(2);
        due.is("told(13) by no cut", x.told(13), Due.NONE);
        due.is("told(-1)", x.told(-1), Due.OUTSIDE);
        due.is("told(20)", x.told(20), Due.OUTSIDE);
    }

    private static void whatItSays() {
        // a lesser word that leads nowhere is not the first
        says("y0;f0 1;f1 1;f2 1;w0;w0,1;w2;", 1, 23, 0b101);
        // word by word the lesser, not the shorter row
        says("y0;f0 1;f0 1;w0;w0,0;", 2, 11, 0b11);
        says("y0;f0 1;f0 1;w0,0;w0;", 2, 1, 0b11);
        // words of the same kinds are several words
        says("y0;f0 1;f0 1;f0 1;f0 1;f0 1;f0 1;f0 1;w0;w0;w0;w0;w0;w0;", 279936, 1111111, 127);
        says("y0;f3 1;f3 1;f3 1;f3 1;f3 1;f3 1;f4 1;w3;w3,4;", 1, 111112, 0b0111111);
        says("y0;f3 1;f3 1;f3 1;f3 1;w3,3,3,3;w3,3;", 2, 1, 0b0111);
        // the last flag alone has no word
        says("y0;f0 1;f1 1;w0;w1,1;", 0, Due.NONE, 0b01);
        says("y0;f0 1;", 0, Due.NONE, 0);
        DayCords x = Due.told("y0;f5 9;f5 1;w5;");
        x.wind(1);
        due.is("the blue ones are out in a wind of 1", x.told(9), 3);
        x.rain(true);
        due.is("wet ones too", x.told(9), 3);
    }

    private static void says(String text, int readings, int first, int spelt) {
        DayCords x = Due.told(text);
        due.is("told(14) of " + text, x.told(14), readings);
        due.is("told(15) of " + text, x.told(15), first);
        due.is("told(16) of " + text, x.told(16), spelt);
    }

    private static void good(String text, int flags) {
        DayCords x = new DayCords();
        due.is("cord() of '" + text + "'", Due.tell(x, text), flags);
        due.is("fault() of '" + text + "'", x.fault(), Due.NONE);
        due.is("told(0) of '" + text + "'", x.told(0), 1);
    }

    private static void faulty(String text, int kind, int letter) {
        DayCords x = new DayCords();
        due.is("cord() of '" + text + "'", Due.tell(x, text), -10 - kind);
        due.is("fault() of '" + text + "'", x.fault(), letter);
        due.is("told(0) of '" + text + "'", x.told(0), 0);
        due.is("told(4) of '" + text + "'", x.told(4), 0);
    }
}
