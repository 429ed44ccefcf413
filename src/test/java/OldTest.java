/** Promises 27 to 32: old, couldBe, next, write, judge, tear. */
public final class OldTest {
    private static final Due due = new Due();

    public static void main(String[] args) {
        looks();
        fits();
        lookNext();
        book();
        tearing();
        outsideOfDeeds();
        due.end();
    }

    private static void looks() {
        DayCords x = new DayCords();
        due.is("old(2, 1)", x.old(2, 1, true), Due.OUTSIDE);
        due.is("old(-1, 1)", x.old(-1, 1, true), Due.OUTSIDE);
        due.is("old(0, -1)", x.old(0, -1, true), Due.OUTSIDE);
        due.is("old(0, 6)", x.old(0, 6, true), Due.OUTSIDE);
        due.is("old(1, 0)", x.old(1, 0, true), Due.OUTSIDE);
        due.is("old(1, 10)", x.old(1, 10, true), Due.OUTSIDE);
        due.is("none yet", x.told(17), 0);
        due.is("old 1", x.old(0, 0, true), 1);
        due.is("old 2", x.old(0, 5, false), 2);
        due.is("old 3", x.old(1, 1, true), 3);
        due.is("old 4", x.old(1, 9, false), 4);
        due.is("old 5", x.old(1, 9, false), 5);
        due.is("old 6", x.old(1, 9, true), 6);
        due.is("old 7", x.old(1, 9, true), Due.FULL);
        due.is("old 7, outside", x.old(1, 10, true), Due.OUTSIDE);
        due.is("told(17)", x.told(17), 6);
    }

    private static void fits() {
        DayCords x = Due.told("y0;f0 1;f0 2;f1 1;f1 2;f2 3;");
        due.is("none off", x.couldBe(), 0);
        x.old(0, 0, true);
        due.is("none off, one look", x.couldBe(), 0);
        Due.hang(x, "1");
        due.is("kind 0", x.couldBe(), 0b00001);
        Due.hang(x, "");
        due.is("kind 0", x.couldBe(), 0b00011);
        x.old(1, 1, false);
        due.is("not heavy by 1", x.couldBe(), 0b00010);
        x.old(1, 3, true);
        due.is("nothing fits", x.couldBe(), 0);
        due.is("nothing to look at", x.next(), Due.NONE);
        x.tear();
        x.old(0, 0, false);
        due.is("not kind 0", x.couldBe(), 0b11100);
        x.old(1, 1, true);
        due.is("heavy by 1", x.couldBe(), 0b00100);
        x.tear();
        due.is("anything", x.couldBe(), 0b11111);
    }

    private static void lookNext() {
        DayCords x = Due.told("y0;f0 1;f0 2;f1 1;f1 2;f2 3;");
        due.is("none off", x.next(), Due.NONE);
        Due.hang(x, "0123");
        due.is("one", x.next(), Due.NONE);
        Due.hang(x, "234");
        due.is("the same kind: heavy", x.next(), 11);
        Due.hang(x, "134");
        due.is("other kinds: the least", x.next(), 0);
        Due.hang(x, "");
        due.is("five: 2 and 3", x.next(), 0);
        x.old(0, 0, false);
        due.is("three: 1 and 2", x.next(), 1);
        // heavy parts them evenly, kind does not
        x = Due.told("y0;f3 8;f3 8;f3 9;f4 9;");
        Due.hang(x, "");
        due.is("heavy parts best", x.next(), 18);
        x = Due.told("y0;f3 8;f3 8;f0 1;");
        Due.hang(x, "2");
        due.is("alike: none parts them", x.next(), Due.NONE);
        due.is("alike", x.couldBe(), 3);
        x = Due.told("y0;f3 9;f3 9;f3 8;f3 7;");
        Due.hang(x, "");
        due.is("heavy 9 parts best", x.next(), 19);
        x = Due.told("y0;f5 9;f5 5;");
        Due.hang(x, "");
        due.is("heavy 5, not kind 5", x.next(), 15);
    }

    private static void book() {
        DayCords x = Due.told("y0;f0 1;f0 1;");
        due.is("judge() of none", x.judge(), Due.NONE);
        due.is("write(0, 2)", x.write(0, 2), Due.UNKNOWN);
        due.is("write(0, -2)", x.write(0, -2), Due.UNKNOWN);
        due.is("write(7, 2): unknown first", x.write(7, 2), Due.UNKNOWN);
        due.is("write(7, 0)", x.write(7, 0), Due.OUTSIDE);
        due.is("write(-1, -1)", x.write(-1, -1), Due.OUTSIDE);
        due.is("write(0, 0)", x.write(0, 0), 1);
        due.is("write(6, -1)", x.write(6, -1), 2);
        due.is("write(1, 1)", x.write(1, 1), 3);
        due.is("judge()", x.judge(), Due.NONE);
        x.eat(1);
        due.is("judge() behind eat", x.judge(), 2);
        x.sew(1, 0);
        due.is("judge() of several", x.judge(), 0);
        x.undo(2);
        due.is("judge() undone", x.judge(), Due.NONE);
        due.is("write(0, -1)", x.write(0, -1), 4);
        due.is("judge()", x.judge(), 3);
        for (int i = 5; i <= 20; i++) {
            due.is("write " + i, x.write(0, 1), i);
        }
        due.is("write 21", x.write(0, 1), Due.FULL);
        due.is("write 21, outside", x.write(7, 1), Due.OUTSIDE);
        due.is("write 21, unknown", x.write(7, 9), Due.UNKNOWN);
        due.is("told(18)", x.told(18), 20);
        DayCords none = new DayCords();
        due.is("write(0, 0) without a cord", none.write(0, 0), Due.UNKNOWN);
        due.is("write(0, -1) without a cord", none.write(0, -1), 1);
        due.is("judge() without a cord", none.judge(), Due.NONE);
    }

    private static void tearing() {
        DayCords x = Due.told("y0;f0 1;f0 1;");
        due.is("tear() of none", x.tear(), 0);
        x.old(0, 1, true);
        x.old(0, 1, true);
        x.write(0, 1);
        due.is("tear()", x.tear(), 3);
        due.is("told(17)", x.told(17), 0);
        due.is("told(18)", x.told(18), 0);
        due.is("judge()", x.judge(), Due.NONE);
        due.is("tear() again", x.tear(), 0);
        due.is("old()", x.old(0, 0, true), 1);
        due.is("write()", x.write(0, 0), 1);
    }

    /** What is old and the book are no part of section 2: images and what is undone leave them. */
    private static void outsideOfDeeds() {
        DayCords x = Due.told("y0;f0 1;f0 1;");
        x.keep(0);
        x.turn(2);
        x.old(0, 1, true);
        x.write(0, 1);
        due.is("undo(1)", x.undo(1), 0);
        due.is("told(17) undone", x.told(17), 1);
        due.is("told(18) undone", x.told(18), 1);
        due.is("goBack(0)", x.goBack(0), 1);
        due.is("told(17) behind goBack", x.told(17), 1);
        due.is("told(18) behind goBack", x.told(18), 1);
        due.is("judge()", x.judge(), 0);
    }
}
