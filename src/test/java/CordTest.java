/** Promises 6 to 9: flag, at, hook, word. */
public final class CordTest {
    private static final Due due = new Due();

    public static void main(String[] args) {
        flags();
        places();
        hooks();
        words();
        due.end();
    }

    private static void flags() {
        DayCords x = Due.told("y3;f2 3;f0 9;f5 1;");
        due.is("kind", x.flag(0, 0), 2);
        due.is("heavy", x.flag(1, 1), 9);
        due.is("place", x.flag(2, 2), 2);
        x.year(2);
        due.is("faded, out", x.flag(0, 3), 4);
        due.is("faded, not out", x.flag(1, 3), 2);
        x.eat(0);
        due.is("place, off", x.flag(0, 2), Due.NONE);
        due.is("place, one ahead", x.flag(2, 2), 1);
        due.is("faded stays, off", x.flag(0, 3), 4);
        due.is("sewn", x.flag(0, 4), 0);
        x.sew(0, 2);
        x.eat(0);
        x.sew(0, 1);
        due.is("sewn twice", x.flag(0, 4), 2);
        due.is("faded anew", x.flag(0, 3), 0);
        due.is("flag(3, 0)", x.flag(3, 0), Due.UNKNOWN);
        due.is("flag(-1, 0)", x.flag(-1, 0), Due.UNKNOWN);
        due.is("flag(0, -1)", x.flag(0, -1), Due.OUTSIDE);
        due.is("flag(0, 5)", x.flag(0, 5), Due.OUTSIDE);
        due.is("flag(3, 5): unknown first", x.flag(3, 5), Due.UNKNOWN);
    }

    private static void places() {
        DayCords x = Due.told("y3;f2 3;f0 9;");
        due.is("at(0)", x.at(0), 0);
        due.is("at(1)", x.at(1), 1);
        due.is("at(2)", x.at(2), Due.NONE);
        due.is("at(6)", x.at(6), Due.NONE);
        due.is("at(7)", x.at(7), Due.OUTSIDE);
        due.is("at(-1)", x.at(-1), Due.OUTSIDE);
        x.eat(0);
        due.is("at(0) behind eat", x.at(0), 1);
        due.is("at(1) behind eat", x.at(1), Due.NONE);
    }

    private static void hooks() {
        DayCords x = Due.told("y3;f0 1;f0 1;f0 1;f0 1;h3 1;h0 2;h6 0;h6 6;");
        due.is("P", x.hook(1, 0), 0);
        due.is("R", x.hook(1, 1), 2);
        due.is("reached 0", x.hook(0, 2), 0b1100);
        due.is("reached 1", x.hook(1, 2), 0b0111);
        due.is("reached 2", x.hook(2, 2), 0);
        due.is("reached 3", x.hook(3, 2), 0b1111);
        x.turn(4);
        due.is("reached 0, turned", x.hook(0, 2), 0b0011);
        x.eat(3);
        due.is("reached 0, eaten", x.hook(0, 2), 0b0001);
        due.is("hook(4, 0)", x.hook(4, 0), Due.UNKNOWN);
        due.is("hook(-1, 9): unknown first", x.hook(-1, 9), Due.UNKNOWN);
        due.is("hook(0, 3)", x.hook(0, 3), Due.OUTSIDE);
        due.is("hook(0, -1)", x.hook(0, -1), Due.OUTSIDE);
    }

    private static void words() {
        DayCords x = Due.told("y3;w5,4,3,2;w1;");
        due.is("word(0, 0)", x.word(0, 0), 5);
        due.is("word(0, 3)", x.word(0, 3), 2);
        due.is("word(1, 0)", x.word(1, 0), 1);
        due.is("word(1, 1)", x.word(1, 1), Due.NONE);
        due.is("word(1, 3)", x.word(1, 3), Due.NONE);
        due.is("word(1, 4)", x.word(1, 4), Due.OUTSIDE);
        due.is("word(1, -1)", x.word(1, -1), Due.OUTSIDE);
        due.is("word(2, 0)", x.word(2, 0), Due.UNKNOWN);
        due.is("word(-1, 4): unknown first", x.word(-1, 4), Due.UNKNOWN);
        // a shorter word told anew has nothing left of the longer
        Due.tell(x, "y3;w1;");
        due.is("word(0, 1) anew", x.word(0, 1), Due.NONE);
    }
}
