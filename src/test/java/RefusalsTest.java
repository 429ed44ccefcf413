import java.lang.reflect.Method;
import java.lang.reflect.Modifier;
import java.util.ArrayList;
import java.util.Arrays;
import java.util.Comparator;
import java.util.HashMap;
import java.util.List;
import java.util.Map;
import java.util.Set;

/** REFUSALS: of several the first, only those that a promise names, and what is refused changes nothing. */
public final class RefusalsTest {
    private static final Due due = new Due();
    private static final int MOST_CALLS = 512;
    private static final int LOOKS = 50;
    private static final int[] EDGES = {Integer.MIN_VALUE, -1000000004, -1000000001, -3, -2, -1, 0, 1, 2, 3, 4, 5, 6, 7, 8, 9, 10, 11,
        19, 20, 21, 29, 30, 31, 59, 60, 61, 98, 99, 100, 101, 126, 127, 128, 240, 255, 256, 9000, 1000000000, Integer.MAX_VALUE};

    private static final Map<String, String> NAMED = named();
    private static final Set<String> READING = Set.of("fault", "told", "flag", "at", "hook", "word", "turnings", "loose", "felt", "farthest",
        "hooked", "gap", "ends", "calm", "couldBe", "next", "judge");

    public static void main(String[] args) {
        constants();
        unknownFirst();
        outsideBeforeNotAndFull();
        for (String scene : Scenes.ALL) {
            sweep(scene);
        }
        due.end();
    }

    private static void constants() {
        due.sentence("NONE is -1 .. -1000000001 and on");
        due.is("NONE", DayCords.NONE, -1);
        due.is("UNKNOWN", DayCords.UNKNOWN, -1000000001);
        due.is("OUTSIDE", DayCords.OUTSIDE, -1000000002);
        due.is("NOT", DayCords.NOT, -1000000003);
        due.is("FULL", DayCords.FULL, -1000000004);
    }

    private static void unknownFirst() {
        due.sentence("of several the first in this order: UNKNOWN ..");
        due.refused(Scenes.SEVEN, "flag 7 5", Due.UNKNOWN);
        due.refused(Scenes.SEVEN, "flag -1 -1", Due.UNKNOWN);
        due.refused(Scenes.SEVEN, "hook 5 3", Due.UNKNOWN);
        due.refused(Scenes.SEVEN, "hook -1 -1", Due.UNKNOWN);
        due.refused(Scenes.SEVEN, "word 6 4", Due.UNKNOWN);
        due.refused(Scenes.SEVEN, "word -1 -1", Due.UNKNOWN);
        due.refused(Scenes.SEVEN, "sew 7 8", Due.UNKNOWN);
        due.refused(Scenes.SEVEN, "sew -1 -1", Due.UNKNOWN);
        due.refused(Scenes.SEVEN, "write 7 7", Due.UNKNOWN);
        due.refused(Scenes.SEVEN, "write -1 -2", Due.UNKNOWN);
        due.refused(Scenes.BRIMFUL, "write 0 7", Due.UNKNOWN);
        due.refused(Scenes.BRIMFUL, "write 7 7", Due.UNKNOWN);
        due.refused(Scenes.SEVEN, "goBack 2", Due.UNKNOWN);
        due.refused(Scenes.NEW, "goBack -1", Due.UNKNOWN);
        for (String scene : Scenes.WITHOUT_CORD) {
            due.refused(scene, "flag 0 5", Due.UNKNOWN);
            due.refused(scene, "hook 0 3", Due.UNKNOWN);
            due.refused(scene, "word 0 4", Due.UNKNOWN);
            due.refused(scene, "sew 0 8", Due.UNKNOWN);
            due.refused(scene, "write 7 0", Due.UNKNOWN);
        }
    }

    private static void outsideBeforeNotAndFull() {
        due.sentence("of several the first in this order: .. OUTSIDE .., NOT ..");
        due.refused(Scenes.SEVEN, "sew 0 8", Due.OUTSIDE);
        due.refused(Scenes.SEVEN, "sew 6 -1", Due.OUTSIDE);
        due.refused(Scenes.SEVEN, "undo 31", Due.OUTSIDE);
        due.refused(Scenes.SEVEN, "undo 0", Due.OUTSIDE);
        for (String scene : Scenes.WITHOUT_CORD) {
            due.refused(scene, "wind 10", Due.OUTSIDE);
            due.refused(scene, "wind -1", Due.OUTSIDE);
            due.refused(scene, "year 0", Due.OUTSIDE);
            due.refused(scene, "year 21", Due.OUTSIDE);
            due.refused(scene, "drift 0", Due.OUTSIDE);
            due.refused(scene, "drift 21", Due.OUTSIDE);
            due.refused(scene, "undo 31", Due.OUTSIDE);
        }
        due.sentence("of several the first in this order: .. OUTSIDE .., FULL");
        due.refused(Scenes.BRIMFUL, "feed -1", Due.OUTSIDE);
        due.refused(Scenes.BRIMFUL, "feed 256", Due.OUTSIDE);
        due.refused(Scenes.BRIMFUL, "old 0 6 true", Due.OUTSIDE);
        due.refused(Scenes.BRIMFUL, "old 1 0 true", Due.OUTSIDE);
        due.refused(Scenes.BRIMFUL, "old 2 1 true", Due.OUTSIDE);
        due.refused(Scenes.BRIMFUL, "write 7 0", Due.OUTSIDE);
        due.refused(Scenes.BRIMFUL, "write -1 -1", Due.OUTSIDE);
        due.refused(Scenes.TOO_LATE, "year 0", Due.OUTSIDE);
        due.refused(Scenes.TOO_LATE, "year 21", Due.OUTSIDE);
        due.refused(Scenes.TOO_LATE, "drift 0", Due.OUTSIDE);
        due.refused(Scenes.TOO_LATE, "drift 21", Due.OUTSIDE);
    }

    /** The refusals by their first letters, in their order. */
    private static Map<String, String> named() {
        Map<String, String> named = new HashMap<>();
        for (String entry : ("feed of, cord, fault, told o, flag uo, at o, hook uo, word uo, turn o, cut o, eat un, sew uon, rain n, wind on, "
            + "year onf, drift onf, undo on, turnings o, loose o, felt o, farthest o, hooked u, gap o, ends o, calm o, old of, couldBe, next, "
            + "write uof, judge, tear, seed o, keep u, goBack un").split(", ")) {
            String[] parts = entry.split(" ");
            named.put(parts[0], parts.length > 1 ? parts[1] : "");
        }
        return named;
    }

    /** Every call of the face, by every mixture of edges, beside the model. */
    private static void sweep(String scene) {
        Method[] methods = DayCords.class.getDeclaredMethods();
        Arrays.sort(methods, Comparator.comparing(Method::getName));
        for (Method m : methods) {
            if (Modifier.isPublic(m.getModifiers())) {
                due.sentence("only the refusals that the promise of " + m.getName() + " names, and nothing changes by them");
                sweep(scene, m.getName(), mixtures(m));
            }
        }
    }

    private static void sweep(String scene, String name, List<String> calls) {
        int most = MOST_CALLS - LOOKS - callsOf(scene);
        StringBuilder refused = new StringBuilder(scene);
        int many = 0;
        DayCords x = null;
        Model m = null;
        int made = 0;
        for (String call : calls) {
            // what is refused changes nothing, so the next call may come on the same object
            if (x == null || made + callsOf(scene) >= MOST_CALLS) {
                x = Calls.scene(scene);
                m = Calls.play(new Model(), scene);
                made = 0;
            }
            made++;
            int answer = Calls.ask(x, call);
            due.is(scene + " | " + call, answer, Calls.ask(m, call));
            if (answer > Due.UNKNOWN) {
                x = READING.contains(name) ? x : null;
                continue;
            }
            String sign = "uonf".substring(Due.UNKNOWN - answer, Due.UNKNOWN - answer + 1);
            due.is(call + " is refused as its promise names", NAMED.get(name).contains(sign) ? 1 : 0, 1);
            if (many < most) {
                many++;
                refused.append(refused.length() == 0 ? "" : " | ").append(call);
            }
        }
        due.alike(scene, refused.toString());
    }

    private static int callsOf(String scene) {
        int calls = 0;
        for (String call : scene.split(" \\| ")) {
            String[] words = call.split(" ");
            if (words[0].equals("type") || words[0].equals("tell")) {
                calls += call.length() - 5 + 1;
            } else {
                calls += words.length > 2 && words[1].equals("x") ? Integer.parseInt(words[0]) : 1;
            }
        }
        return calls;
    }

    private static List<String> mixtures(Method m) {
        List<String> calls = new ArrayList<>(List.of(m.getName()));
        for (Class<?> type : m.getParameterTypes()) {
            List<String> longer = new ArrayList<>();
            for (String call : calls) {
                if (type == boolean.class) {
                    longer.add(call + " true");
                    longer.add(call + " false");
                } else {
                    for (int edge : EDGES) {
                        longer.add(call + " " + edge);
                    }
                }
            }
            calls = longer;
        }
        return calls;
    }
}
