import java.lang.management.ManagementFactory;
import java.lang.reflect.Constructor;
import java.lang.reflect.Field;
import java.lang.reflect.Method;
import java.lang.reflect.Modifier;
import java.nio.charset.StandardCharsets;
import java.nio.file.Files;
import java.nio.file.Path;
import java.util.Set;
import java.util.TreeSet;
import java.util.regex.Pattern;

/** The public face, the rules of LANGUAGE.md that can be seen from outside, and the room that calls take. */
public final class FaceTest {
    private static final Due due = new Due();
    private static final String METHODS = "feed(int) cord() fault() told(int) flag(int,int) at(int) hook(int,int) word(int,int) "
        + "turn(int) cut(int) eat(int) sew(int,int) rain(boolean) wind(int) year(int) drift(int) undo(int) turnings(int) loose(int) "
        + "felt(int,int) farthest(int) hooked(int) gap(int) ends(int) calm(int,int) old(int,int,boolean) couldBe() next() "
        + "write(int,int) judge() tear() seed(int) keep(int) goBack(int)";

    public static void main(String[] args) throws Exception {
        face();
        classesInside();
        language();
        room();
        due.end();
    }

    private static void yes(String what, boolean holds) {
        due.is(what, holds ? 1 : 0, 1);
    }

    private static void face() throws Exception {
        Class<?> c = DayCords.class;
        yes("public final", Modifier.isPublic(c.getModifiers()) && Modifier.isFinal(c.getModifiers()));
        Set<String> found = new TreeSet<>();
        for (Method m : c.getDeclaredMethods()) {
            if (!Modifier.isPrivate(m.getModifiers())) {
                StringBuilder types = new StringBuilder();
                for (Class<?> type : m.getParameterTypes()) {
                    types.append(types.length() == 0 ? "" : ",").append(type.getName());
                }
                found.add(m.getName() + "(" + types + ")");
                yes(m.getName() + " is a public int of an object", m.getReturnType() == int.class
                    && Modifier.isPublic(m.getModifiers()) && !Modifier.isStatic(m.getModifiers()));
            }
        }
        Set<String> want = new TreeSet<>(Set.of(METHODS.split(" ")));
        yes("methods: " + found, found.equals(want));
        Constructor<?>[] constructors = c.getDeclaredConstructors();
        yes("one public constructor without parameters", constructors.length == 1
            && Modifier.isPublic(constructors[0].getModifiers()) && constructors[0].getParameterCount() == 0);
        Set<String> constants = new TreeSet<>();
        for (Field f : c.getDeclaredFields()) {
            if (!Modifier.isPrivate(f.getModifiers())) {
                constants.add(f.getName() + "=" + f.getInt(null));
            }
        }
        yes("constants: " + constants, constants.equals(new TreeSet<>(Set.of("NONE=-1", "UNKNOWN=-1000000001",
            "OUTSIDE=-1000000002", "NOT=-1000000003", "FULL=-1000000004"))));
    }

    private static void classesInside() {
        Set<String> names = new TreeSet<>();
        for (String method : METHODS.split(" ")) {
            names.add(method.substring(0, method.indexOf('(')));
        }
        Class<?>[] inside = DayCords.class.getDeclaredClasses();
        yes("at most twelve classes", inside.length + 1 <= 12);
        for (Class<?> c : inside) {
            yes(c + " is static", Modifier.isStatic(c.getModifiers()));
            yes(c + " has twenty fields at most", c.getDeclaredFields().length <= 20);
            for (Method m : c.getDeclaredMethods()) {
                yes(c + " has no method of a public name: " + m.getName(), !names.contains(m.getName()));
                yes("parameters of " + m.getName(), m.getParameterCount() <= 7);
            }
        }
        int fields = 0;
        for (Field f : DayCords.class.getDeclaredFields()) {
            if (Modifier.isStatic(f.getModifiers())) {
                yes(f.getName() + " is final", Modifier.isFinal(f.getModifiers()));
            } else {
                fields++;
            }
        }
        yes("twenty fields at most", fields <= 20);
    }

    private static void language() throws Exception {
        String source = new String(Files.readAllBytes(Path.of("src/main/java/DayCords.java")), StandardCharsets.UTF_8);
        String code = source.replaceAll("(?s)/\\*.*?\\*/", "").replaceAll("//[^\n]*", "");
        for (String bad : new String[] {"\\bthrows?\\b", "\\btry\\b", "\\bcatch\\b", "\\bsynchronized\\b", "\\bassert\\b", "->", "::",
            "\\bpackage\\b", "\\bprotected\\b", "Exact\\b", "\\bvar\\b", "\\bSystem\\.(?!arraycopy)", "\\bimport (?!java\\.util\\.Arrays;)"}) {
            yes("the source has no " + bad, !Pattern.compile(bad).matcher(code).find());
        }
        yes("the source is ASCII", source.chars().allMatch(c -> c < 128));
    }

    /** Rows are made in the constructor and used again: no call makes an object. */
    private static void room() {
        com.sun.management.ThreadMXBean threads = (com.sun.management.ThreadMXBean) ManagementFactory.getThreadMXBean();
        String text = "y5;f0 5;f1 6;f2 4;f3 3;f4 4;f5 9;f0 7;w0;w0,1;w1,2;w2;w3,4,5;w5;h1 1;h4 0;h5 2;";
        long least = Long.MAX_VALUE;
        for (int i = 0; i < 5; i++) {
            DayCords x = new DayCords();
            long before = threads.getThreadAllocatedBytes(Thread.currentThread().getId());
            everyCall(x, text);
            least = Math.min(least, threads.getThreadAllocatedBytes(Thread.currentThread().getId()) - before);
        }
        // the measure itself makes a little
        yes("bytes that a run of calls makes: " + least, least < 200);
    }

    private static void everyCall(DayCords x, String text) {
        Due.tell(x, "y5;f9");
        Due.tell(x, text);
        x.turn(5);
        x.cut(3);
        x.rain(true);
        x.year(20);
        x.drift(20);
        x.undo(30);
        x.eat(1);
        x.sew(1, 0);
        x.wind(3);
        x.keep(0);
        x.goBack(0);
        for (int what = 0; what < 20; what++) {
            x.told(what);
            x.turnings(what);
            x.loose(what);
            x.ends(what);
            x.hook(0, what);
            x.flag(0, what);
            x.gap(what);
            x.at(what);
        }
        x.felt(9, 3);
        x.farthest(9);
        x.hooked(3);
        x.calm(60, 50);
        x.old(0, 0, true);
        x.couldBe();
        x.next();
        x.write(0, 0);
        x.judge();
        x.tear();
        x.seed(4);
    }
}
