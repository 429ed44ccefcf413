import java.util.HashMap;
import java.util.Map;

/**
 * All that can be seen of an object behind a scene, and of all that it keeps. Each look is on an
 * object made anew and takes fewer than 50 calls, so that objects stay within their 512 calls.
 */
final class Seen {
    private static final Map<String, String> KNOWN = new HashMap<>();

    static String of(String scene) {
        return KNOWN.computeIfAbsent(scene, Seen::look);
    }

    private static String look(String scene) {
        StringBuilder seen = new StringBuilder();
        told(Calls.scene(scene), seen);
        flags(Calls.scene(scene), seen);
        placesAndHooks(Calls.scene(scene), seen);
        words(Calls.scene(scene), seen);
        for (int n = 1; n <= 30; n++) {
            line("undo " + n, Calls.scene(scene), seen);
        }
        for (int i = 0; i < 2; i++) {
            line("goBack " + i, Calls.scene(scene), seen);
        }
        line("cord", Calls.scene(scene), seen);
        looks(Calls.scene(scene), seen);
        book(Calls.scene(scene), seen);
        return seen.toString();
    }

    private static void told(DayCords x, StringBuilder seen) {
        for (int what = 0; what < 20; what++) {
            add(seen, "told " + what, x.told(what));
        }
        add(seen, "fault", x.fault());
        add(seen, "judge", x.judge());
        add(seen, "couldBe", x.couldBe());
        add(seen, "next", x.next());
        add(seen, "seed", x.seed(0));
    }

    private static void flags(DayCords x, StringBuilder seen) {
        for (int f = 0; f < 7; f++) {
            for (int what = 0; what < 5; what++) {
                add(seen, "flag " + f + " " + what, x.flag(f, what));
            }
        }
    }

    private static void placesAndHooks(DayCords x, StringBuilder seen) {
        for (int p = 0; p < 7; p++) {
            add(seen, "at " + p, x.at(p));
        }
        for (int h = 0; h < 5; h++) {
            for (int what = 0; what < 3; what++) {
                add(seen, "hook " + h + " " + what, x.hook(h, what));
            }
        }
    }

    private static void words(DayCords x, StringBuilder seen) {
        for (int w = 0; w < 6; w++) {
            for (int k = 0; k < 4; k++) {
                add(seen, "word " + w + " " + k, x.word(w, k));
            }
        }
    }

    /** What a call that brings back, or tells anew, makes of section 2 and THE SEED. */
    private static void line(String call, DayCords x, StringBuilder seen) {
        add(seen, call, Calls.ask(x, call));
        add(seen, "seed", x.seed(0));
        for (int what = 5; what <= 10; what++) {
            add(seen, "told " + what, x.told(what));
        }
        seen.append(Due.row(x));
        for (int f = 0; f < 7; f++) {
            add(seen, "faded", x.flag(f, 3));
            add(seen, "sewn", x.flag(f, 4));
        }
        add(seen, "fault", x.fault());
    }

    /** What is OLD shows by the flags that come off one by one. */
    private static void looks(DayCords x, StringBuilder seen) {
        for (int f = 0; f < 7; f++) {
            x.eat(f);
            add(seen, "couldBe", x.couldBe());
            add(seen, "next", x.next());
        }
        add(seen, "tear", x.tear());
    }

    /** THE BOOK shows by its first wrong entry for several rows of the flags. */
    private static void book(DayCords x, StringBuilder seen) {
        for (int k = 7; k >= 2; k--) {
            x.turn(k);
            add(seen, "judge", x.judge());
        }
        for (int f = 0; f < 7; f++) {
            x.cut(1 + f % 2);
            add(seen, "judge", x.judge());
            x.eat(f);
            add(seen, "judge", x.judge());
        }
    }

    private static void add(StringBuilder seen, String call, int answer) {
        seen.append(call).append(" = ").append(answer).append('\n');
    }
}
