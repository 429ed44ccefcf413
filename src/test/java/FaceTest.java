import java.lang.management.ManagementFactory;
import java.lang.reflect.Array;
import java.lang.reflect.Constructor;
import java.lang.reflect.Field;
import java.lang.reflect.Method;
import java.lang.reflect.Modifier;
import java.util.ArrayList;
import java.util.Collections;
import java.util.IdentityHashMap;
import java.util.List;
import java.util.Set;
import java.util.TreeSet;

/** The public face, and the room that objects and calls take. */
public final class FaceTest {
    private static final Due due = new Due();
    private static final String METHODS = "feed(int) cord() fault() told(int) flag(int,int) at(int) hook(int,int) word(int,int) "
        + "turn(int) cut(int) eat(int) sew(int,int) rain(boolean) wind(int) year(int) drift(int) undo(int) turnings(int) loose(int) "
        + "felt(int,int) farthest(int) hooked(int) gap(int) ends(int) calm(int,int) old(int,int,boolean) couldBe() next() "
        + "write(int,int) judge() tear() seed(int) keep(int) goBack(int)";

    public static void main(String[] args) throws Exception {
        face();
        roomOfAnObject();
        room();
        due.end();
    }

    private static void yes(String what, boolean holds) {
        due.is(what, holds ? 1 : 0, 1);
    }

    private static void face() throws Exception {
        Class<?> c = DayCords.class;
        yes("public final", Modifier.isPublic(c.getModifiers()) && Modifier.isFinal(c.getModifiers()));
        Set<String> found = new TreeSet<>();
        for (Method m : c.getDeclaredMethods()) {
            if (!Modifier.isPrivate(m.getModifiers())) {
                StringBuilder types = new StringBuilder();
                for (Class<?> type : m.getParameterTypes()) {
                    types.append(types.length() == 0 ? "" : ",").append(type.getName());
                }
                found.add(m.getName() + "(" + types + ")");
                yes(m.getName() + " is a public int of an object", m.getReturnType() == int.class
                    && Modifier.isPublic(m.getModifiers()) && !Modifier.isStatic(m.getModifiers()));
            }
        }
        Set<String> want = new TreeSet<>(Set.of(METHODS.split(" ")));
        yes("methods: " + found, found.equals(want));
        Constructor<?>[] constructors = c.getDeclaredConstructors();
        yes("one public constructor without parameters", constructors.length == 1
            && Modifier.isPublic(constructors[0].getModifiers()) && constructors[0].getParameterCount() == 0);
        Set<String> constants = new TreeSet<>();
        for (Field f : c.getDeclaredFields()) {
            if (!Modifier.isPrivate(f.getModifiers())) {
                constants.add(f.getName() + "=" + f.getInt(null));
            }
        }
        yes("constants: " + constants, constants.equals(new TreeSet<>(Set.of("NONE=-1", "UNKNOWN=-1000000001",
            "OUTSIDE=-1000000002", "NOT=-1000000003", "FULL=-1000000004"))));
    }

    /** All runs live in one room, so that an object is small: thousands of them must find place there. */
    private static void roomOfAnObject() throws Exception {
        Set<Object> met = Collections.newSetFromMap(new IdentityHashMap<>());
        List<Object> open = new ArrayList<>(List.of(new DayCords()));
        int elements = 0;
        for (int i = 0; i < open.size(); i++) {
            Object o = open.get(i);
            if (!met.add(o)) {
                continue;
            }
            if (o.getClass().isArray()) {
                elements += Array.getLength(o);
                for (int k = 0; k < Array.getLength(o) && !o.getClass().getComponentType().isPrimitive(); k++) {
                    open.add(Array.get(o, k));
                }
                continue;
            }
            for (Field f : o.getClass().getDeclaredFields()) {
                if (!Modifier.isStatic(f.getModifiers())) {
                    f.setAccessible(true);
                    elements++;
                    if (!f.getType().isPrimitive()) {
                        open.add(f.get(o));
                    }
                }
            }
        }
        yes("objects and arrays of a new object: " + met.size(), met.size() <= 200);
        yes("fields and elements of a new object: " + elements, elements <= 2000);
    }

    /** Rows are made in the constructor and used again: no call makes an object. */
    private static void room() {
        com.sun.management.ThreadMXBean threads = (com.sun.management.ThreadMXBean) ManagementFactory.getThreadMXBean();
        String text = "y5;f0 5;f1 6;f2 4;f3 3;f4 4;f5 9;f0 7;w0;w0,1;w1,2;w2;w3,4,5;w5;h1 1;h4 0;h5 2;";
        long least = Long.MAX_VALUE;
        for (int i = 0; i < 5; i++) {
            DayCords x = new DayCords();
            long before = threads.getThreadAllocatedBytes(Thread.currentThread().getId());
            everyCall(x, text);
            least = Math.min(least, threads.getThreadAllocatedBytes(Thread.currentThread().getId()) - before);
        }
        // the measure itself makes a little
        yes("bytes that a run of calls makes: " + least, least < 200);
    }

    private static void everyCall(DayCords x, String text) {
        Due.tell(x, "y5;f9");
        Due.tell(x, text);
        x.turn(5);
        x.cut(3);
        x.rain(true);
        x.year(20);
        x.drift(20);
        x.undo(30);
        x.eat(1);
        x.sew(1, 0);
        x.wind(3);
        x.keep(0);
        x.goBack(0);
        for (int what = 0; what < 20; what++) {
            x.told(what);
            x.turnings(what);
            x.loose(what);
            x.ends(what);
            x.hook(0, what);
            x.flag(0, what);
            x.gap(what);
            x.at(what);
        }
        x.felt(9, 3);
        x.farthest(9);
        x.hooked(3);
        x.calm(60, 50);
        x.old(0, 0, true);
        x.couldBe();
        x.next();
        x.write(0, 0);
        x.judge();
        x.tear();
        x.seed(4);
    }
}
