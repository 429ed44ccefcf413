import java.util.Random;

/** Long runs of calls by chance (from fixed seeds), each answered by the program and by the model. */
public final class ModelTest {
    private static final int RUNS = 4000;
    private static final int CALLS = 512;
    private static final Due due = new Due();
    private static Random random;
    private static DayCords x;
    private static Model m;
    private static String run;

    public static void main(String[] args) {
        for (int r = 0; r < RUNS; r++) {
            random = new Random(r);
            x = new DayCords();
            m = new Model();
            run = "run " + r + ": ";
            int calls = random.nextInt(20) == 0 ? 0 : tell();
            while (calls < CALLS) {
                calls += random.nextInt(150) == 0 && calls < 250 ? tell() : step();
            }
        }
        due.end();
    }

    private static int upTo(int n) {
        return random.nextInt(n + 1);
    }

    /** Mostly from 0 to most, now and then a little or far outside. */
    private static int about(int most) {
        switch (random.nextInt(40)) {
            case 0: return -1;
            case 1: return most + 1;
            case 2: return random.nextInt();
            case 3: return random.nextBoolean() ? Integer.MIN_VALUE : Integer.MAX_VALUE;
            default: return upTo(most);
        }
    }

    private static int tell() {
        String text = text();
        for (int i = 0; i < text.length(); i++) {
            char c = text.charAt(i);
            due.is(run + "feed " + (int) c, x.feed(c), m.feed(c));
        }
        due.is(run + "cord() of '" + text + "'", x.cord(), m.cord());
        due.is(run + "fault() of '" + text + "'", x.fault(), m.fault());
        return text.length() + 2;
    }

    private static String text() {
        int shape = random.nextInt(12);
        int kinds = 1 + upTo(5);
        StringBuilder t = new StringBuilder("y" + upTo(9) + ";");
        int flags = shape == 0 ? upTo(9) : 4 + upTo(3);
        int words = shape == 0 ? upTo(8) : upTo(6);
        int hooks = shape == 0 ? upTo(7) : upTo(5);
        for (int i = 0; i < flags; i++) {
            t.append('f').append(6 - kinds + upTo(kinds - 1)).append(' ').append(1 + upTo(8)).append(';');
        }
        for (int i = 0; i < words; i++) {
            t.append('w').append(6 - kinds + upTo(kinds - 1));
            for (int k = random.nextInt(shape == 0 ? 5 : 4); k > 0; k--) {
                t.append(',').append(6 - kinds + upTo(kinds - 1));
            }
            t.append(';');
        }
        for (int i = 0; i < hooks; i++) {
            t.append('h').append(upTo(6)).append(' ').append(upTo(random.nextBoolean() ? 2 : 6)).append(';');
        }
        if (shape <= 1) {
            spoil(t);
        }
        if (random.nextInt(60) == 0) {
            t.setLength(upTo(t.length()));
        }
        return t.length() > 240 ? t.substring(0, 240) : t.toString();
    }

    private static void spoil(StringBuilder t) {
        String signs = "    ;;,,0123456789yfwhx-" + (char) 0 + (char) 255;
        for (int i = 1 + upTo(2); i > 0 && t.length() > 0; i--) {
            int where = random.nextInt(t.length());
            char sign = signs.charAt(random.nextInt(signs.length()));
            switch (random.nextInt(3)) {
                case 0: t.setCharAt(where, sign); break;
                case 1: t.insert(where, sign); break;
                default: t.deleteCharAt(where); break;
            }
        }
    }

    private static void same(String call, int got, int want) {
        due.is(run + call, got, want);
    }

    private static int step() {
        int a;
        int b;
        boolean is;
        switch (random.nextInt(44)) {
            case 0: a = about(20); same("told(" + a + ")", x.told(a), m.told(a)); break;
            case 1: a = about(7); b = about(4); same("flag(" + a + ", " + b + ")", x.flag(a, b), m.flag(a, b)); break;
            case 2: a = about(6); same("at(" + a + ")", x.at(a), m.at(a)); break;
            case 3: a = about(5); b = about(2); same("hook(" + a + ", " + b + ")", x.hook(a, b), m.hook(a, b)); break;
            case 4: a = about(6); b = about(3); same("word(" + a + ", " + b + ")", x.word(a, b), m.word(a, b)); break;
            case 5: case 6: a = about(7); same("turn(" + a + ")", x.turn(a), m.turn(a)); break;
            case 7: a = about(6); same("cut(" + a + ")", x.cut(a), m.cut(a)); break;
            case 8: a = about(6); same("eat(" + a + ")", x.eat(a), m.eat(a)); break;
            case 9: case 10: case 11: case 12: a = about(6); b = about(6); same("sew(" + a + ", " + b + ")", x.sew(a, b), m.sew(a, b)); break;
            case 13: is = upTo(2) > 0; same("rain(" + is + ")", x.rain(is), m.rain(is)); break;
            case 14: a = about(9); same("wind(" + a + ")", x.wind(a), m.wind(a)); break;
            case 15: a = about(random.nextInt(4) == 0 ? 20 : 3); same("year(" + a + ")", x.year(a), m.year(a)); break;
            case 16: a = about(random.nextInt(4) == 0 ? 20 : 3); same("drift(" + a + ")", x.drift(a), m.drift(a)); break;
            case 17: a = about(random.nextInt(3) == 0 ? 30 : 4); same("undo(" + a + ")", x.undo(a), m.undo(a)); break;
            case 18: case 19: a = about(1); same("turnings(" + a + ")", x.turnings(a), m.turnings(a)); break;
            case 20: a = about(1); same("loose(" + a + ")", x.loose(a), m.loose(a)); break;
            case 21: a = about(99); b = about(7); same("felt(" + a + ", " + b + ")", x.felt(a, b), m.felt(a, b)); break;
            case 22: a = about(50); same("farthest(" + a + ")", x.farthest(a), m.farthest(a)); break;
            case 23: case 24: a = about(127); same("hooked(" + a + ")", x.hooked(a), m.hooked(a)); break;
            case 25: case 26: a = about(7); same("gap(" + a + ")", x.gap(a), m.gap(a)); break;
            case 27: a = about(1); same("ends(" + a + ")", x.ends(a), m.ends(a)); break;
            case 28: a = about(60); b = about(100); same("calm(" + a + ", " + b + ")", x.calm(a, b), m.calm(a, b)); break;
            case 29: a = about(1); b = about(9); is = upTo(3) == 0; same("old(" + a + ", " + b + ", " + is + ")", x.old(a, b, is), m.old(a, b, is)); break;
            case 30: same("couldBe()", x.couldBe(), m.couldBe()); break;
            case 31: case 32: same("next()", x.next(), m.next()); break;
            case 33: a = about(6); b = random.nextInt(3) == 0 ? about(6) : m.at(Math.max(0, Math.min(6, a))); same("write(" + a + ", " + b + ")", x.write(a, b), m.write(a, b)); break;
            case 34: same("judge()", x.judge(), m.judge()); break;
            case 35: if (upTo(2) == 0) same("tear()", x.tear(), m.tear()); break;
            case 36: a = about(Integer.MAX_VALUE - 1); if (upTo(3) == 0) same("seed(" + a + ")", x.seed(a), m.seed(a)); break;
            case 37: a = about(1); if (upTo(3) == 0) same("keep(" + a + ")", x.keep(a), m.keep(a)); break;
            case 38: a = about(1); if (upTo(2) == 0) same("goBack(" + a + ")", x.goBack(a), m.goBack(a)); break;
            default: a = 5 + upTo(14); same("told(" + a + ")", x.told(a), m.told(a)); break;
        }
        return 1;
    }
}
