import java.util.ArrayList;
import java.util.Arrays;
import java.util.Collections;
import java.util.HashMap;
import java.util.HashSet;
import java.util.List;
import java.util.Map;
import java.util.Set;

/** The document once more, written with the whole library and by other ways than the program. */
final class Model {
    static final int NONE = -1, UNKNOWN = -1000000001, OUTSIDE = -1000000002, NOT = -1000000003, FULL = -1000000004;

    /** Section 2, copied whole for each deed. */
    private static final class State {
        List<Integer> row = new ArrayList<>();
        Set<Integer> wet = new HashSet<>();
        int[] faded = new int[7], sewn = new int[7];
        int wind, years;

        State copy() {
            State s = new State();
            s.row = new ArrayList<>(row);
            s.wet = new HashSet<>(wet);
            s.faded = faded.clone();
            s.sewn = sewn.clone();
            s.wind = wind;
            s.years = years;
            return s;
        }
    }

    private final StringBuilder text = new StringBuilder();
    private int faultAt = NONE;
    private boolean present;
    private List<int[]> flags = new ArrayList<>(), words = new ArrayList<>(), hooks = new ArrayList<>();
    private State s = new State();
    private final List<State> past = new ArrayList<>();
    private final State[] images = new State[2];
    private final int[] imageSeeds = new int[2];
    private final List<int[]> looks = new ArrayList<>();
    private final List<int[]> book = new ArrayList<>();
    private int seed;

    int feed(int letter) {
        if (letter < 0 || letter > 255) return OUTSIDE;
        if (text.length() == 240) return FULL;
        text.append((char) letter);
        return text.length();
    }

    /** What may come, as a state machine over tokens: each state names what it takes. */
    int cord() {
        String t = text.toString();
        text.setLength(0);
        int wind = 0, kind = 0;
        boolean y = false;
        List<int[]> fs = new ArrayList<>(), ws = new ArrayList<>(), hs = new ArrayList<>();
        List<Integer> numbers = new ArrayList<>();
        char clause = 0;
        boolean wantsNumber = false;
        int i = 0;
        while (i < t.length() && kind == 0) {
            char c = t.charAt(i);
            if (c == ' ') {
                i++;
                continue;
            }
            int end = i + 1;
            while (Character.isDigit(c) && end < t.length() && t.charAt(end) >= '0' && t.charAt(end) <= '9') end++;
            if (clause == 0) {
                if ("yfwh".indexOf(c) < 0 || !y && c != 'y') kind = 1;
                else if (c == 'y' && y || c == 'f' && fs.size() == 7 || c == 'w' && ws.size() == 6 || c == 'h' && hs.size() == 5) kind = 3;
                clause = c;
                wantsNumber = true;
                numbers.clear();
            } else if (c >= '0' && c <= '9') {
                if (!wantsNumber) kind = 1;
                else {
                    int least = clause == 'f' && numbers.size() == 1 ? 1 : 0;
                    int most = clause == 'y' ? 9 : clause == 'w' ? 5 : clause == 'h' ? 6 : numbers.isEmpty() ? 5 : 9;
                    if (end - i > 3) kind = 2;
                    else {
                        int v = Integer.parseInt(t.substring(i, end));
                        if (v < least || v > most) kind = 2;
                        numbers.add(v);
                        wantsNumber = (clause == 'f' || clause == 'h') && numbers.size() == 1;
                    }
                }
            } else if (wantsNumber) kind = 1;
            else if (c == ',' && clause == 'w' && numbers.size() < 4) wantsNumber = true;
            else if (c == ';') {
                int[] got = numbers.stream().mapToInt(Integer::intValue).toArray();
                if (clause == 'y') {
                    y = true;
                    wind = got[0];
                } else (clause == 'f' ? fs : clause == 'w' ? ws : hs).add(got);
                clause = 0;
            } else kind = 1;
            if (kind == 0) i = end;
        }
        if (kind == 0 && clause != 0) kind = 1;
        if (kind != 0) {
            faultAt = i;
            return -10 - kind;
        }
        faultAt = NONE;
        present = y;
        flags = fs;
        words = ws;
        hooks = hs;
        s = new State();
        s.wind = wind;
        for (int f = 0; f < fs.size(); f++) s.row.add(f);
        past.clear();
        images[0] = images[1] = null;
        looks.clear();
        book.clear();
        return fs.size();
    }

    int fault() {
        return faultAt;
    }

    private int kind(int f) {
        return flags.get(f)[0];
    }

    private int heavy(int f) {
        return flags.get(f)[1];
    }

    private boolean known(int f) {
        return f >= 0 && f < flags.size();
    }

    private boolean out(int f) {
        boolean w = s.wet.contains(f);
        if (kind(f) == 4 && w) return false;
        return kind(f) == 5 && s.wind > 0 || s.wind >= heavy(f) + (w ? 2 : 0);
    }

    private static int set(Iterable<Integer> of) {
        int set = 0;
        for (int f : of) set += 1 << f;
        return set;
    }

    private List<Integer> off() {
        List<Integer> off = new ArrayList<>();
        for (int f = 0; f < flags.size(); f++) if (!s.row.contains(f)) off.add(f);
        return off;
    }

    private static boolean right(List<Integer> row) {
        List<Integer> sorted = new ArrayList<>(row);
        Collections.sort(sorted);
        return sorted.equals(row);
    }

    int told(int what) {
        switch (what) {
            case 0: return present ? 1 : 0;
            case 1: return flags.size();
            case 2: return words.size();
            case 3: return hooks.size();
            case 4: return text.length();
            case 5: return s.years;
            case 6: return s.wind;
            case 7: return s.row.size();
            case 8: return set(s.row);
            case 9: {
                List<Integer> outs = new ArrayList<>();
                for (int f : s.row) if (out(f)) outs.add(f);
                return set(outs);
            }
            case 10: return set(s.wet);
            case 11: return present && right(s.row) ? 1 : 0;
            case 12: {
                int pairs = 0;
                for (int a : s.row) for (int b : s.row) if (a < b && s.row.indexOf(a) > s.row.indexOf(b)) pairs++;
                return pairs;
            }
            case 13: {
                List<Integer> turned = new ArrayList<>(s.row);
                for (int p = 0; p == 0 || p < s.row.size(); p++) {
                    if (right(turned)) return p;
                    Collections.rotate(turned, -1);
                }
                return NONE;
            }
            case 14: return readings().size();
            case 15: {
                List<String> all = readings();
                if (all.isEmpty()) return NONE;
                return s.row.isEmpty() ? 0 : Integer.parseInt(Collections.min(all));
            }
            case 16: {
                int places = 0;
                for (int p = 0; p < s.row.size(); p++) for (int[] w : words) if (kinds().startsWith(spell(w), p)) places |= 1 << p;
                return places;
            }
            case 17: return looks.size();
            case 18: return book.size();
            case 19: return past.size();
            default: return OUTSIDE;
        }
    }

    private String kinds() {
        StringBuilder b = new StringBuilder();
        for (int f : s.row) b.append(kind(f));
        return b.toString();
    }

    private static String spell(int[] word) {
        StringBuilder b = new StringBuilder();
        for (int k : word) b.append(k);
        return b.toString();
    }

    private List<String> readings() {
        List<String> all = new ArrayList<>();
        read(kinds(), "", all);
        return all;
    }

    private void read(String rest, String sofar, List<String> all) {
        if (rest.isEmpty()) all.add(sofar);
        for (int w = 0; w < words.size(); w++) {
            String spelt = spell(words.get(w));
            if (!rest.isEmpty() && rest.startsWith(spelt)) read(rest.substring(spelt.length()), sofar + (w + 1), all);
        }
    }

    int flag(int f, int what) {
        if (!known(f)) return UNKNOWN;
        if (what < 0 || what > 4) return OUTSIDE;
        return new int[] {kind(f), heavy(f), s.row.indexOf(f), s.faded[f], s.sewn[f]}[what];
    }

    int at(int place) {
        if (place < 0 || place > 6) return OUTSIDE;
        return place < s.row.size() ? s.row.get(place) : NONE;
    }

    int hook(int h, int what) {
        if (h < 0 || h >= hooks.size()) return UNKNOWN;
        if (what < 0 || what > 2) return OUTSIDE;
        if (what < 2) return hooks.get(h)[what];
        List<Integer> reached = new ArrayList<>();
        for (int f : s.row) if (reaches(h, f)) reached.add(f);
        return set(reached);
    }

    private boolean reaches(int h, int f) {
        return Math.abs(s.row.indexOf(f) - hooks.get(h)[0]) <= hooks.get(h)[1];
    }

    int word(int w, int k) {
        if (w < 0 || w >= words.size()) return UNKNOWN;
        if (k < 0 || k > 3) return OUTSIDE;
        return k < words.get(w).length ? words.get(w)[k] : NONE;
    }

    private void deed() {
        past.add(s.copy());
        if (past.size() > 30) past.remove(0);
    }

    int turn(int k) {
        if (k < 2 || k > s.row.size()) return OUTSIDE;
        deed();
        Collections.reverse(s.row.subList(0, k));
        return s.row.get(0);
    }

    int cut(int p) {
        if (p < 1 || p > s.row.size() - 1) return OUTSIDE;
        deed();
        Collections.rotate(s.row, -p);
        return s.row.get(0);
    }

    private void off(Integer f) {
        s.row.remove(f);
        s.wet.remove(f);
    }

    int eat(int f) {
        if (!known(f)) return UNKNOWN;
        int place = s.row.indexOf(f);
        if (place < 0) return NOT;
        deed();
        off(f);
        return place;
    }

    int sew(int f, int p) {
        if (!known(f)) return UNKNOWN;
        if (p < 0 || p > s.row.size()) return OUTSIDE;
        if (s.row.contains(f)) return NOT;
        deed();
        s.row.add(p, f);
        s.faded[f] = 0;
        s.sewn[f]++;
        return s.row.size();
    }

    int rain(boolean falls) {
        if (!present) return NOT;
        deed();
        int were = s.wet.size();
        s.wet = falls ? new HashSet<>(s.row) : new HashSet<>();
        return were;
    }

    int wind(int w) {
        if (w < 0 || w > 9) return OUTSIDE;
        if (!present) return NOT;
        deed();
        int was = s.wind;
        s.wind = w;
        return was;
    }

    private void pass() {
        List<Integer> eaten = new ArrayList<>();
        for (int f : s.row) {
            s.faded[f] += out(f) && kind(f) != 3 ? 2 : 1;
            if (s.faded[f] > 99) s.faded[f] = 99;
            if (kind(f) == 2 && s.faded[f] >= 40) eaten.add(f);
        }
        for (Integer f : eaten) off(f);
        s.wet.clear();
        s.years++;
    }

    int year(int n) {
        if (n < 1 || n > 20) return OUTSIDE;
        if (!present) return NOT;
        if (s.years > 9000) return FULL;
        for (int i = 0; i < n; i++) {
            deed();
            pass();
        }
        return s.row.size();
    }

    private int draw(int n) {
        seed = (int) ((seed * 1103515245L + 12345L) % (1L << 31));
        return seed / 65536 % n;
    }

    int drift(int n) {
        if (n < 1 || n > 20) return OUTSIDE;
        if (!present) return NOT;
        if (s.years > 9000) return FULL;
        for (int i = 0; i < n; i++) {
            deed();
            switch (draw(6)) {
                case 0: s.wind = draw(10); break;
                case 1: s.wet = new HashSet<>(s.row); break;
                case 2: if (s.row.size() > 1) Collections.rotate(s.row, -draw(s.row.size())); break;
                case 3: if (!s.row.isEmpty()) off(s.row.get(draw(s.row.size()))); break;
                default: break;
            }
            pass();
        }
        return s.row.size();
    }

    int undo(int n) {
        if (n < 1 || n > 30) return OUTSIDE;
        if (n > past.size()) return NOT;
        for (int i = 0; i < n; i++) s = past.remove(past.size() - 1);
        return s.years;
    }

    private static final Map<List<Integer>, Integer> STEPS = new HashMap<>();

    /** From the right row outwards, once for each set of flags. */
    private static int steps(List<Integer> row) {
        if (!STEPS.containsKey(row)) {
            List<Integer> goal = new ArrayList<>(row);
            Collections.sort(goal);
            STEPS.put(goal, 0);
            List<List<Integer>> open = new ArrayList<>(List.of(goal));
            for (int i = 0; i < open.size(); i++) {
                for (int k = 2; k <= row.size(); k++) {
                    List<Integer> then = new ArrayList<>(open.get(i));
                    Collections.reverse(then.subList(0, k));
                    if (STEPS.putIfAbsent(then, STEPS.get(open.get(i)) + 1) == null) open.add(then);
                }
            }
        }
        return STEPS.get(row);
    }

    int turnings(int what) {
        if (what < 0 || what > 1) return OUTSIDE;
        int fewest = steps(s.row);
        if (what == 0) return fewest;
        for (int k = 2; k <= s.row.size(); k++) {
            List<Integer> then = new ArrayList<>(s.row);
            Collections.reverse(then.subList(0, k));
            if (steps(then) < fewest) return k;
        }
        return NONE;
    }

    int loose(int what) {
        if (what < 0 || what > 1) return OUTSIDE;
        int best = 1000 * 128;
        for (int gone = 0; gone < 128; gone++) {
            List<Integer> left = new ArrayList<>();
            int eaten = 0;
            for (int f : s.row) {
                if ((gone >> f) % 2 == 0) left.add(f);
                else eaten++;
            }
            if (eaten == Integer.bitCount(gone) && right(left)) best = Math.min(best, 1000 * eaten + gone);
        }
        return what == 0 ? best / 1000 : best % 1000;
    }

    int felt(int pull, int p) {
        if (pull < 0 || pull > 99 || p < 0 || p > 7) return OUTSIDE;
        int left = pull;
        for (int f : s.row.subList(0, Math.min(p, s.row.size()))) left -= heavy(f) * (s.wet.contains(f) ? 2 : 1);
        return left < 0 ? 0 : left;
    }

    int farthest(int pull) {
        if (pull < 0 || pull > 99) return OUTSIDE;
        for (int p = s.row.size() - 1; p >= 0; p--) if (felt(pull, p) > 0) return p;
        return NONE;
    }

    int hooked(int set) {
        for (int f = 0; f < 32; f++) if ((set >>> f) % 2 != 0 && !known(f)) return UNKNOWN;
        int best = Integer.MAX_VALUE;
        for (int hs = 0; hs < 1 << hooks.size(); hs++) {
            boolean all = true;
            for (int f = 0; f < flags.size(); f++) {
                if ((set >> f) % 2 == 0) continue;
                boolean any = false;
                for (int h = 0; h < hooks.size(); h++) any |= (hs >> h) % 2 == 1 && s.row.contains(f) && reaches(h, f);
                all &= any;
            }
            if (all) best = Math.min(best, Integer.bitCount(hs) * 100 + hs);
        }
        return best == Integer.MAX_VALUE ? NONE : best % 100;
    }

    int gap(int p) {
        if (p < 0 || p > s.row.size()) return OUTSIDE;
        List<Integer> fit = new ArrayList<>();
        for (int f : off()) {
            List<Integer> then = new ArrayList<>(s.row);
            then.add(p, f);
            if (right(then.subList(Math.max(0, p - 1), Math.min(then.size(), p + 2)))) fit.add(f);
        }
        return set(fit);
    }

    private int lead(List<Integer> row) {
        if (row.isEmpty()) return 0;
        int last = row.size() - 1;
        return Math.max(heavy(row.get(0)) - lead(row.subList(1, last + 1)), heavy(row.get(last)) - lead(row.subList(0, last)));
    }

    int ends(int what) {
        if (what < 0 || what > 1) return OUTSIDE;
        if (what == 0) return 1000 + lead(s.row);
        if (s.row.isEmpty()) return NONE;
        return heavy(s.row.get(0)) - lead(s.row.subList(1, s.row.size())) == lead(s.row) ? 0 : 1;
    }

    int calm(int n, int q) {
        if (n < 0 || n > 60 || q < 0 || q > 100) return OUTSIDE;
        return n == 0 ? 1000000000 : (int) ((long) calm(n - 1, q) * q / 100);
    }

    int old(int what, int k, boolean is) {
        if (what < 0 || what > 1 || k < what || k > (what == 0 ? 5 : 9)) return OUTSIDE;
        if (looks.size() == 6) return FULL;
        looks.add(new int[] {what, k, is ? 1 : 0});
        return looks.size();
    }

    private List<Integer> could() {
        List<Integer> fit = off();
        fit.removeIf(f -> looks.stream().anyMatch(l -> (flags.get(f)[l[0]] == l[1]) != (l[2] == 1)));
        return fit;
    }

    int couldBe() {
        return set(could());
    }

    int next() {
        List<Integer> fit = could();
        int best = NONE, least = fit.size();
        for (int what = 0; what < 2; what++) {
            for (int k = what; k <= (what == 0 ? 5 : 9); k++) {
                int yes = 0;
                for (int f : fit) if (flags.get(f)[what] == k) yes++;
                int greater = Math.max(yes, fit.size() - yes);
                if (greater < least) {
                    least = greater;
                    best = 10 * what + k;
                }
            }
        }
        return best;
    }

    int write(int p, int f) {
        if (f != NONE && !known(f)) return UNKNOWN;
        if (p < 0 || p > 6) return OUTSIDE;
        if (book.size() == 20) return FULL;
        book.add(new int[] {p, f});
        return book.size();
    }

    int judge() {
        for (int i = 0; i < book.size(); i++) if (at(book.get(i)[0]) != book.get(i)[1]) return i;
        return NONE;
    }

    int tear() {
        int both = looks.size() + book.size();
        looks.clear();
        book.clear();
        return both;
    }

    int seed(int v) {
        if (v < 0) return OUTSIDE;
        int was = seed;
        seed = v;
        return was;
    }

    int keep(int i) {
        if (i != 0 && i != 1) return UNKNOWN;
        images[i] = s.copy();
        imageSeeds[i] = seed;
        past.clear();
        return 1;
    }

    int goBack(int i) {
        if (i != 0 && i != 1) return UNKNOWN;
        if (images[i] == null) return NOT;
        s = images[i].copy();
        seed = imageSeeds[i];
        past.clear();
        return 1;
    }

    @Override
    public String toString() {
        return s.row + " of " + Arrays.deepToString(flags.toArray());
    }
}
