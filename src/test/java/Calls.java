import java.lang.reflect.Method;
import java.util.HashMap;
import java.util.Map;

/**
 * Calls told as text, for the program and for the model alike: "sew 1 0", "rain true";
 * "type y5;" feeds letters, "tell y5;" feeds them and calls cord(), "30 x wind 4" is a call 30 times.
 * A scene is a row of calls with " | " between them, on a new object.
 */
final class Calls {
    private static final Map<Class<?>, Map<String, Method>> METHODS = new HashMap<>();

    static DayCords scene(String calls) {
        return play(new DayCords(), calls);
    }

    static <T> T play(T on, String calls) {
        for (String call : calls.split(" \\| ")) {
            ask(on, call);
        }
        return on;
    }

    /** The answer of the call (of the last, if it is several); 0 of an empty one. */
    static int ask(Object on, String call) {
        String[] words = call.split(" ");
        if (call.isEmpty()) {
            return 0;
        }
        if (words[0].equals("type") || words[0].equals("tell")) {
            return feed(on, call.substring(5), words[0].equals("tell"));
        }
        int answer = 0;
        boolean many = words.length > 2 && words[1].equals("x");
        for (int i = 0; i < (many ? Integer.parseInt(words[0]) : 1); i++) {
            answer = invoke(on, words, many ? 2 : 0);
        }
        return answer;
    }

    private static int feed(Object on, String text, boolean cord) {
        int answer = 0;
        for (int i = 0; i < text.length(); i++) {
            answer = invoke(on, new String[] {"feed", Integer.toString(text.charAt(i))}, 0);
        }
        return cord ? invoke(on, new String[] {"cord"}, 0) : answer;
    }

    private static int invoke(Object on, String[] words, int from) {
        Object[] arguments = new Object[words.length - from - 1];
        for (int i = 0; i < arguments.length; i++) {
            String word = words[from + 1 + i];
            arguments[i] = word.equals("true") || word.equals("false") ? (Object) Boolean.valueOf(word) : (Object) Integer.valueOf(word);
        }
        try {
            return (int) method(on, words[from]).invoke(on, arguments);
        } catch (ReflectiveOperationException | IllegalArgumentException e) {
            throw new IllegalStateException("the call " + String.join(" ", words) + " failed", e);
        }
    }

    private static Method method(Object on, String name) {
        Map<String, Method> known = METHODS.computeIfAbsent(on.getClass(), c -> {
            Map<String, Method> all = new HashMap<>();
            for (Method m : c.getDeclaredMethods()) {
                all.put(m.getName(), m);
            }
            return all;
        });
        if (!known.containsKey(name)) {
            throw new IllegalStateException("there is no call " + name);
        }
        return known.get(name);
    }
}
