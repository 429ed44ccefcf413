import java.util.Arrays;

/** A line of flags across a street, each flag a day: what ../shared/DOC.md promises. */
public final class DayCords {
    public static final int NONE = -1, UNKNOWN = -1000000001, OUTSIDE = -1000000002, NOT = -1000000003, FULL = -1000000004;

    private static final int MAX_LETTERS = 240;
    private static final int LAST_LETTER = 255;
    private static final int MAX_FLAGS = 7;
    private static final int MAX_WORDS = 6;
    private static final int MAX_WORD_KINDS = 4;
    private static final int MAX_HOOKS = 5;
    private static final int MAX_LOOKS = 6;
    private static final int MAX_ENTRIES = 20;
    private static final int MAX_UNDONE = 30;
    private static final int IMAGES = 2;

    private static final int LAST_KIND = 5;
    private static final int LEAST_HEAVY = 1;
    private static final int MOST_HEAVY = 9;
    private static final int MOST_WIND = 9;
    private static final int LAST_PLACE = 6;
    private static final int MOST_REACH = 6;
    private static final int MOST_FADED = 99;
    private static final int MOST_PULL = 99;
    private static final int YEARS_AT_ONCE = 20;
    private static final int LAST_YEAR = 9000;
    private static final int CALM_YEARS = 60;
    private static final int HUNDRED = 100;
    private static final int BILLION = 1000000000;

    private static final int PETTICOAT = 2;
    private static final int PETTICOAT_LASTS = 40;
    private static final int KING = 3;
    private static final int WASHING = 4;
    private static final int BLUE = 5;
    private static final int WET_NEEDS_MORE = 2;

    private static final int CANNOT_STAND = 1;
    private static final int BAD_NUMBER = 2;
    private static final int ONE_TOO_MANY = 3;
    private static final int MOST_FIGURES = 3;

    private static final int LOOK_KIND = 0;
    private static final int LOOK_HEAVY = 1;
    private static final int HEAVY_LOOKS_FROM = 10;

    private static final long DRAW_TIMES = 1103515245L;
    private static final long DRAW_MORE = 12345L;
    private static final long DRAW_MASK = 2147483647L;
    private static final int DRAW_CUT = 65536;

    private static final int ENDS_BASE = 1000;

    private final Reader reader = new Reader();
    private final Plan draft = new Plan();
    private final Plan plan = new Plan();
    private final Line line = new Line();
    private final Past past = new Past();
    private final Image[] images = new Image[] {new Image(), new Image()};
    private final Turner turner = new Turner();
    private final Sailor sailor = new Sailor();
    private final Takers takers = new Takers();
    private final Looks looks = new Looks();
    private final Book book = new Book();
    private int seedNow = 0;

    public DayCords() {
    }

    // ---- the cord

    public int feed(int letter) {
        if (letter < 0 || letter > LAST_LETTER) {
            return OUTSIDE;
        }
        if (reader.length >= MAX_LETTERS) {
            return FULL;
        }
        reader.letters[reader.length] = letter;
        reader.length++;
        return reader.length;
    }

    public int cord() {
        reader.readInto(draft);
        reader.length = 0;
        if (reader.faultKind != 0) {
            return -10 - reader.faultKind;
        }
        plan.copyFrom(draft);
        line.hangAll(plan);
        past.forget();
        looks.count = 0;
        book.count = 0;
        for (int i = 0; i < IMAGES; i++) {
            images[i].kept = false;
        }
        return plan.flags;
    }

    public int fault() {
        return reader.faultLetter;
    }

    public int told(int what) {
        switch (what) {
            case 0: return plan.present ? 1 : 0;
            case 1: return plan.flags;
            case 2: return plan.words;
            case 3: return plan.hooks;
            case 4: return reader.length;
            case 5: return line.years;
            case 6: return line.wind;
            case 7: return line.count;
            case 8: return line.onSet();
            case 9: return line.outSet(plan);
            case 10: return line.wet;
            case 11: return plan.present && line.rises() ? 1 : 0;
            case 12: return line.crossed();
            case 13: return line.rightCut();
            case 14: return sailor.readings(plan, line);
            case 15: return sailor.firstReading(plan, line);
            case 16: return sailor.spelt(plan, line);
            case 17: return looks.count;
            case 18: return book.count;
            case 19: return past.count;
            default: return OUTSIDE;
        }
    }

    public int flag(int f, int what) {
        if (!plan.hasFlag(f)) {
            return UNKNOWN;
        }
        switch (what) {
            case 0: return plan.kinds[f];
            case 1: return plan.heavies[f];
            case 2: return line.placeOf(f);
            case 3: return line.faded[f];
            case 4: return line.sewn[f];
            default: return OUTSIDE;
        }
    }

    public int at(int place) {
        if (place < 0 || place > LAST_PLACE) {
            return OUTSIDE;
        }
        return line.flagAt(place);
    }

    public int hook(int h, int what) {
        if (h < 0 || h >= plan.hooks) {
            return UNKNOWN;
        }
        switch (what) {
            case 0: return plan.hookPlaces[h];
            case 1: return plan.hookReaches[h];
            case 2: return line.flagsAt(plan.placesOfHook(h));
            default: return OUTSIDE;
        }
    }

    public int word(int w, int k) {
        if (w < 0 || w >= plan.words) {
            return UNKNOWN;
        }
        if (k < 0 || k >= MAX_WORD_KINDS) {
            return OUTSIDE;
        }
        return k < plan.wordLengths[w] ? plan.wordKind(w, k) : NONE;
    }

    // ---- deeds

    public int turn(int k) {
        if (k < 2 || k > line.count) {
            return OUTSIDE;
        }
        past.remember(line);
        line.turnFront(k);
        return line.flagAt(0);
    }

    public int cut(int p) {
        if (p < 1 || p >= line.count) {
            return OUTSIDE;
        }
        past.remember(line);
        line.cutAt(p);
        return line.flagAt(0);
    }

    public int eat(int f) {
        if (!plan.hasFlag(f)) {
            return UNKNOWN;
        }
        int place = line.placeOf(f);
        if (place == NONE) {
            return NOT;
        }
        past.remember(line);
        line.takeOff(place);
        return place;
    }

    public int sew(int f, int p) {
        if (!plan.hasFlag(f)) {
            return UNKNOWN;
        }
        if (p < 0 || p > line.count) {
            return OUTSIDE;
        }
        if (line.placeOf(f) != NONE) {
            return NOT;
        }
        past.remember(line);
        line.sewOn(f, p);
        return line.count;
    }

    public int rain(boolean falls) {
        if (!plan.present) {
            return NOT;
        }
        int before = Integer.bitCount(line.wet);
        past.remember(line);
        line.wet = falls ? line.onSet() : 0;
        return before;
    }

    public int wind(int w) {
        if (w < 0 || w > MOST_WIND) {
            return OUTSIDE;
        }
        if (!plan.present) {
            return NOT;
        }
        int before = line.wind;
        past.remember(line);
        line.wind = w;
        return before;
    }

    public int year(int n) {
        int refusal = yearsRefused(n);
        if (refusal != 0) {
            return refusal;
        }
        for (int i = 0; i < n; i++) {
            past.remember(line);
            line.passYear(plan);
        }
        return line.count;
    }

    public int drift(int n) {
        int refusal = yearsRefused(n);
        if (refusal != 0) {
            return refusal;
        }
        for (int i = 0; i < n; i++) {
            past.remember(line);
            chance();
            line.passYear(plan);
        }
        return line.count;
    }

    public int undo(int n) {
        if (n < 1 || n > MAX_UNDONE) {
            return OUTSIDE;
        }
        if (n > past.count) {
            return NOT;
        }
        past.bringBack(n, line);
        return line.years;
    }

    // ---- tried

    public int turnings(int what) {
        switch (what) {
            case 0: return turner.fewest(line);
            case 1: return turner.firstTurn(line);
            default: return OUTSIDE;
        }
    }

    public int loose(int what) {
        switch (what) {
            case 0: return Integer.bitCount(line.looseSet());
            case 1: return line.looseSet();
            default: return OUTSIDE;
        }
    }

    public int felt(int s, int p) {
        if (s < 0 || s > MOST_PULL || p < 0 || p > MAX_FLAGS) {
            return OUTSIDE;
        }
        return line.pullAt(plan, s, p);
    }

    public int farthest(int s) {
        if (s < 0 || s > MOST_PULL) {
            return OUTSIDE;
        }
        int last = NONE;
        for (int p = 0; p < line.count; p++) {
            if (line.pullAt(plan, s, p) >= 1) {
                last = p;
            }
        }
        return last;
    }

    public int hooked(int set) {
        if ((set & ~plan.allFlags()) != 0) {
            return UNKNOWN;
        }
        if ((set & ~line.onSet()) != 0) {
            return NONE;
        }
        return plan.fewestHooks(line.placesOf(set));
    }

    public int gap(int p) {
        if (p < 0 || p > line.count) {
            return OUTSIDE;
        }
        int above = p > 0 ? line.flagAt(p - 1) : NONE;
        int below = p < line.count ? line.flagAt(p) : plan.flags;
        int fits = 0;
        for (int f = above + 1; f < below; f++) {
            fits |= 1 << f;
        }
        return fits & offSet();
    }

    public int ends(int what) {
        switch (what) {
            case 0: return ENDS_BASE + takers.more(plan, line);
            case 1: return takers.firstEnd(plan, line);
            default: return OUTSIDE;
        }
    }

    public int calm(int n, int q) {
        if (n < 0 || n > CALM_YEARS || q < 0 || q > HUNDRED) {
            return OUTSIDE;
        }
        long odds = BILLION;
        for (int i = 0; i < n; i++) {
            odds = odds * q / HUNDRED;
        }
        return (int) odds;
    }

    // ---- what is old

    public int old(int what, int k, boolean is) {
        boolean isKind = what == LOOK_KIND && k >= 0 && k <= LAST_KIND;
        boolean isHeavy = what == LOOK_HEAVY && k >= LEAST_HEAVY && k <= MOST_HEAVY;
        if (!isKind && !isHeavy) {
            return OUTSIDE;
        }
        if (looks.count >= MAX_LOOKS) {
            return FULL;
        }
        looks.add(isHeavy ? HEAVY_LOOKS_FROM + k : k, is);
        return looks.count;
    }

    public int couldBe() {
        return looks.fitting(plan, offSet());
    }

    public int next() {
        return looks.bestLook(plan, looks.fitting(plan, offSet()));
    }

    public int write(int p, int f) {
        if (f != NONE && !plan.hasFlag(f)) {
            return UNKNOWN;
        }
        if (p < 0 || p > LAST_PLACE) {
            return OUTSIDE;
        }
        if (book.count >= MAX_ENTRIES) {
            return FULL;
        }
        book.add(p, f);
        return book.count;
    }

    public int judge() {
        return book.firstWrong(line);
    }

    public int tear() {
        int both = looks.count + book.count;
        looks.count = 0;
        book.count = 0;
        return both;
    }

    // ---- images

    public int seed(int v) {
        if (v < 0) {
            return OUTSIDE;
        }
        int before = seedNow;
        seedNow = v;
        return before;
    }

    public int keep(int i) {
        if (i < 0 || i >= IMAGES) {
            return UNKNOWN;
        }
        images[i].kept = true;
        images[i].seedThen = seedNow;
        images[i].lineThen.copyFrom(line);
        past.forget();
        return 1;
    }

    public int goBack(int i) {
        if (i < 0 || i >= IMAGES) {
            return UNKNOWN;
        }
        if (!images[i].kept) {
            return NOT;
        }
        seedNow = images[i].seedThen;
        line.copyFrom(images[i].lineThen);
        past.forget();
        return 1;
    }

    private int offSet() {
        return plan.allFlags() & ~line.onSet();
    }

    private int yearsRefused(int n) {
        if (n < 1 || n > YEARS_AT_ONCE) {
            return OUTSIDE;
        }
        if (!plan.present) {
            return NOT;
        }
        return line.years > LAST_YEAR ? FULL : 0;
    }

    private int draw(int n) {
        seedNow = (int) ((seedNow * DRAW_TIMES + DRAW_MORE) & DRAW_MASK);
        return n > 0 ? seedNow / DRAW_CUT % n : 0;
    }

    /** What a draw brings ahead of a year; the further draws are made only where they are needed. */
    private void chance() {
        int lot = draw(6);
        if (lot == 0) {
            line.wind = draw(10);
        } else if (lot == 1) {
            line.wet = line.onSet();
        } else if (lot == 2 && line.count >= 2) {
            line.cutAt(draw(line.count));
        } else if (lot == 3 && line.count >= 1) {
            line.takeOff(draw(line.count));
        }
    }

    private static boolean hasBit(int set, int bit) {
        return (set >> bit & 1) != 0;
    }

    /** What a text tells: it stays as it is while the flags come and go. */
    private static final class Plan {
        final int[] kinds = new int[MAX_FLAGS];
        final int[] heavies = new int[MAX_FLAGS];
        final int[] wordKinds = new int[MAX_WORDS * MAX_WORD_KINDS];
        final int[] wordLengths = new int[MAX_WORDS];
        final int[] hookPlaces = new int[MAX_HOOKS];
        final int[] hookReaches = new int[MAX_HOOKS];
        boolean present = false;
        int windTold = 0;
        int flags = 0;
        int words = 0;
        int hooks = 0;

        void clear() {
            present = false;
            windTold = 0;
            flags = 0;
            words = 0;
            hooks = 0;
        }

        void copyFrom(Plan other) {
            System.arraycopy(other.kinds, 0, kinds, 0, MAX_FLAGS);
            System.arraycopy(other.heavies, 0, heavies, 0, MAX_FLAGS);
            System.arraycopy(other.wordKinds, 0, wordKinds, 0, MAX_WORDS * MAX_WORD_KINDS);
            System.arraycopy(other.wordLengths, 0, wordLengths, 0, MAX_WORDS);
            System.arraycopy(other.hookPlaces, 0, hookPlaces, 0, MAX_HOOKS);
            System.arraycopy(other.hookReaches, 0, hookReaches, 0, MAX_HOOKS);
            present = other.present;
            windTold = other.windTold;
            flags = other.flags;
            words = other.words;
            hooks = other.hooks;
        }

        boolean hasFlag(int f) {
            return f >= 0 && f < flags;
        }

        int allFlags() {
            return (1 << flags) - 1;
        }

        int wordKind(int w, int k) {
            return wordKinds[w * MAX_WORD_KINDS + k];
        }

        int placesOfHook(int h) {
            int places = 0;
            for (int p = 0; p <= LAST_PLACE; p++) {
                if (p >= hookPlaces[h] - hookReaches[h] && p <= hookPlaces[h] + hookReaches[h]) {
                    places |= 1 << p;
                }
            }
            return places;
        }

        int fewestHooks(int places) {
            int best = NONE;
            for (int set = 0; set < 1 << hooks; set++) {
                boolean fewer = best == NONE || Integer.bitCount(set) < Integer.bitCount(best);
                if (fewer && (places & ~placesOfHooks(set)) == 0) {
                    best = set;
                }
            }
            return best;
        }

        private int placesOfHooks(int set) {
            int places = 0;
            for (int h = 0; h < hooks; h++) {
                if (hasBit(set, h)) {
                    places |= placesOfHook(h);
                }
            }
            return places;
        }
    }

    /** Reads THE TEXT clause by clause and stops at its first fault. */
    private static final class Reader {
        final int[] letters = new int[MAX_LETTERS];
        int length = 0;
        int faultKind = 0;
        int faultLetter = NONE;
        private int position = 0;

        void readInto(Plan plan) {
            plan.clear();
            faultKind = 0;
            faultLetter = NONE;
            position = 0;
            skipBlanks();
            for (int clause = 0; clause < MAX_LETTERS && position < length && faultKind == 0; clause++) {
                readClause(plan);
                skipBlanks();
            }
        }

        private void readClause(Plan plan) {
            int name = letterHere();
            if (name != 'y' && (name != 'f' && name != 'w' && name != 'h' || !plan.present)) {
                blame(CANNOT_STAND, position);
            } else if (isFullFor(plan, name)) {
                blame(ONE_TOO_MANY, position);
            } else {
                position++;
                readRest(plan, name);
                readMark(';');
            }
        }

        private static boolean isFullFor(Plan plan, int name) {
            switch (name) {
                case 'y': return plan.present;
                case 'f': return plan.flags >= MAX_FLAGS;
                case 'w': return plan.words >= MAX_WORDS;
                default: return plan.hooks >= MAX_HOOKS;
            }
        }

        private void readRest(Plan plan, int name) {
            switch (name) {
                case 'y':
                    plan.windTold = readNumber(0, MOST_WIND);
                    plan.present = true;
                    break;
                case 'f':
                    plan.kinds[plan.flags] = readNumber(0, LAST_KIND);
                    plan.heavies[plan.flags] = readNumber(LEAST_HEAVY, MOST_HEAVY);
                    plan.flags++;
                    break;
                case 'w':
                    readKinds(plan);
                    plan.words++;
                    break;
                default:
                    plan.hookPlaces[plan.hooks] = readNumber(0, LAST_PLACE);
                    plan.hookReaches[plan.hooks] = readNumber(0, MOST_REACH);
                    plan.hooks++;
                    break;
            }
        }

        private void readKinds(Plan plan) {
            int first = plan.words * MAX_WORD_KINDS;
            plan.wordKinds[first] = readNumber(0, LAST_KIND);
            int kinds = 1;
            skipBlanks();
            // A fifth number's ',' is left standing: the ';' that is due there blames it.
            while (kinds < MAX_WORD_KINDS && faultKind == 0 && letterHere() == ',') {
                position++;
                plan.wordKinds[first + kinds] = readNumber(0, LAST_KIND);
                kinds++;
                skipBlanks();
            }
            plan.wordLengths[plan.words] = kinds;
        }

        private int readNumber(int least, int most) {
            skipBlanks();
            if (!isFigure(letterHere())) {
                blame(CANNOT_STAND, position);
                return least;
            }
            int first = position;
            int number = 0;
            while (position < length && isFigure(letters[position])) {
                // Further figures are a fault by their count alone, and could overflow.
                if (position - first < MOST_FIGURES) {
                    number = number * 10 + letters[position] - '0';
                }
                position++;
            }
            if (position - first > MOST_FIGURES || number < least || number > most) {
                blame(BAD_NUMBER, first);
                return least;
            }
            return number;
        }

        private void readMark(int mark) {
            skipBlanks();
            if (letterHere() == mark) {
                position++;
            } else {
                blame(CANNOT_STAND, position);
            }
        }

        private void skipBlanks() {
            while (position < length && letters[position] == ' ') {
                position++;
            }
        }

        private int letterHere() {
            return position < length ? letters[position] : NONE;
        }

        private static boolean isFigure(int letter) {
            return letter >= '0' && letter <= '9';
        }

        /** Reading may run on a little behind a fault: the first one blamed is the one that counts. */
        private void blame(int kind, int letter) {
            if (faultKind == 0) {
                faultKind = kind;
                faultLetter = letter;
            }
        }
    }

    /** All that deeds change (section 2), so that it can be copied whole. */
    private static final class Line {
        final int[] order = new int[MAX_FLAGS];
        final int[] faded = new int[MAX_FLAGS];
        final int[] sewn = new int[MAX_FLAGS];
        int count = 0;
        int wet = 0;
        int wind = 0;
        int years = 0;

        void hangAll(Plan plan) {
            Arrays.fill(faded, 0);
            Arrays.fill(sewn, 0);
            count = plan.flags;
            for (int p = 0; p < count; p++) {
                order[p] = p;
            }
            wet = 0;
            wind = plan.windTold;
            years = 0;
        }

        void copyFrom(Line other) {
            System.arraycopy(other.order, 0, order, 0, MAX_FLAGS);
            System.arraycopy(other.faded, 0, faded, 0, MAX_FLAGS);
            System.arraycopy(other.sewn, 0, sewn, 0, MAX_FLAGS);
            count = other.count;
            wet = other.wet;
            wind = other.wind;
            years = other.years;
        }

        int flagAt(int place) {
            return place >= 0 && place < count ? order[place] : NONE;
        }

        int placeOf(int f) {
            for (int p = 0; p < count; p++) {
                if (order[p] == f) {
                    return p;
                }
            }
            return NONE;
        }

        int flagsAt(int places) {
            int set = 0;
            for (int p = 0; p < count; p++) {
                if (hasBit(places, p)) {
                    set |= 1 << order[p];
                }
            }
            return set;
        }

        int placesOf(int set) {
            int places = 0;
            for (int p = 0; p < count; p++) {
                if (hasBit(set, order[p])) {
                    places |= 1 << p;
                }
            }
            return places;
        }

        int onSet() {
            int set = 0;
            for (int p = 0; p < count; p++) {
                set |= 1 << order[p];
            }
            return set;
        }

        int outSet(Plan plan) {
            int set = 0;
            for (int p = 0; p < count; p++) {
                if (isOut(plan, order[p])) {
                    set |= 1 << order[p];
                }
            }
            return set;
        }

        boolean isOut(Plan plan, int f) {
            boolean isWet = hasBit(wet, f);
            if (plan.kinds[f] == WASHING && isWet) {
                return false;
            }
            if (plan.kinds[f] == BLUE) {
                return wind >= 1;
            }
            return wind >= plan.heavies[f] + (isWet ? WET_NEEDS_MORE : 0);
        }

        void turnFront(int k) {
            swapEnds(0, k - 1);
        }

        /** Turning both parts and then the whole brings the back part ahead without a row beside. */
        void cutAt(int p) {
            swapEnds(0, p - 1);
            swapEnds(p, count - 1);
            swapEnds(0, count - 1);
        }

        private void swapEnds(int first, int last) {
            for (int a = first, b = last; a < b; a++, b--) {
                int f = order[a];
                order[a] = order[b];
                order[b] = f;
            }
        }

        void takeOff(int place) {
            if (place < 0 || place >= count) {
                return;
            }
            wet &= ~(1 << order[place]);
            for (int p = place + 1; p < count; p++) {
                order[p - 1] = order[p];
            }
            count--;
        }

        void sewOn(int f, int place) {
            if (count >= MAX_FLAGS) {
                return;
            }
            for (int p = count; p > place; p--) {
                order[p] = order[p - 1];
            }
            order[place] = f;
            count++;
            faded[f] = 0;
            sewn[f]++;
        }

        void passYear(Plan plan) {
            for (int p = 0; p < count; p++) {
                int f = order[p];
                int more = isOut(plan, f) && plan.kinds[f] != KING ? 2 : 1;
                faded[f] = Math.min(MOST_FADED, faded[f] + more);
            }
            for (int p = count - 1; p >= 0; p--) {
                if (plan.kinds[order[p]] == PETTICOAT && faded[order[p]] >= PETTICOAT_LASTS) {
                    takeOff(p);
                }
            }
            wet = 0;
            years++;
        }

        boolean rises() {
            return risesFrom(0);
        }

        int rightCut() {
            if (rises()) {
                return 0;
            }
            for (int p = 1; p < count; p++) {
                if (risesFrom(p)) {
                    return p;
                }
            }
            return NONE;
        }

        private boolean risesFrom(int start) {
            for (int i = 1; i < count; i++) {
                if (order[(start + i) % count] < order[(start + i - 1) % count]) {
                    return false;
                }
            }
            return true;
        }

        int crossed() {
            int pairs = 0;
            for (int p = 0; p < count; p++) {
                for (int q = p + 1; q < count; q++) {
                    if (order[q] < order[p]) {
                        pairs++;
                    }
                }
            }
            return pairs;
        }

        int looseSet() {
            int on = onSet();
            int best = on;
            for (int set = 0; set < on; set++) {
                boolean fewer = (set & ~on) == 0 && Integer.bitCount(set) < Integer.bitCount(best);
                if (fewer && risesWithout(set)) {
                    best = set;
                }
            }
            return best;
        }

        private boolean risesWithout(int set) {
            int last = NONE;
            for (int p = 0; p < count; p++) {
                if (!hasBit(set, order[p])) {
                    if (order[p] < last) {
                        return false;
                    }
                    last = order[p];
                }
            }
            return true;
        }

        int pullAt(Plan plan, int s, int place) {
            int left = s;
            for (int p = 0; p < count && p < place; p++) {
                int f = order[p];
                left -= hasBit(wet, f) ? 2 * plan.heavies[f] : plan.heavies[f];
            }
            return Math.max(0, left);
        }
    }

    /** What can be undone: the lines as they were ahead of the latest deeds, in a ring. */
    private static final class Past {
        private final Line[] lines = new Line[MAX_UNDONE];
        private int top = 0;
        int count = 0;

        Past() {
            for (int i = 0; i < MAX_UNDONE; i++) {
                lines[i] = new Line();
            }
        }

        void forget() {
            count = 0;
        }

        void remember(Line line) {
            lines[top].copyFrom(line);
            top = (top + 1) % MAX_UNDONE;
            count = Math.min(count + 1, MAX_UNDONE);
        }

        void bringBack(int n, Line line) {
            top = Math.floorMod(top - n, MAX_UNDONE);
            count -= n;
            line.copyFrom(lines[top]);
        }
    }

    private static final class Image {
        final Line lineThen = new Line();
        int seedThen = 0;
        boolean kept = false;
    }

    /**
     * The fewest turnings, by trying rows of turnings of rising length. A turning mends at most
     * one gap (flags side by side that are no neighbours), so rows with too few left are passed over.
     */
    private static final class Turner {
        /** No row of seven needs more than eight; twice as many as flags is enough for any row. */
        private static final int MOST_TURNS = 2 * MAX_FLAGS;
        private final int[] ranks = new int[MAX_FLAGS + 1];
        private int size = 0;

        int fewest(Line line) {
            takeRanks(line);
            int gaps = countGaps();
            if (gaps == 0) {
                return 0;
            }
            for (int turns = gaps; turns <= MOST_TURNS; turns++) {
                if (firstWithin(ranks, size, gaps, turns) != NONE) {
                    return turns;
                }
            }
            return NONE;
        }

        int firstTurn(Line line) {
            int turns = fewest(line);
            return turns > 0 ? firstWithin(ranks, size, countGaps(), turns) : NONE;
        }

        private void takeRanks(Line line) {
            size = line.count;
            for (int p = 0; p < size; p++) {
                int rank = 0;
                for (int q = 0; q < size; q++) {
                    if (line.order[q] < line.order[p]) {
                        rank++;
                    }
                }
                ranks[p] = rank;
            }
            // A post behind the last flag: the greatest must come to stand by it.
            ranks[size] = size;
        }

        private int countGaps() {
            int gaps = 0;
            for (int p = 1; p <= size; p++) {
                gaps += gapBetween(ranks[p - 1], ranks[p]);
            }
            return gaps;
        }

        private static int gapBetween(int a, int b) {
            return a - b == 1 || b - a == 1 ? 0 : 1;
        }

        /** The least turning by which, and at most left - 1 more, no gap remains; ranks are as before then. */
        private static int firstWithin(int[] ranks, int size, int gaps, int left) {
            if (size >= ranks.length || left <= 0 || left > MOST_TURNS) {
                return NONE;
            }
            for (int k = 2; k <= size; k++) {
                int gapsThen = gaps - gapBetween(ranks[k - 1], ranks[k]) + gapBetween(ranks[0], ranks[k]);
                if (gapsThen == 0) {
                    return k;
                }
                if (gapsThen < left) {
                    turnRanks(ranks, k);
                    int further = firstWithin(ranks, size, gapsThen, left - 1);
                    turnRanks(ranks, k);
                    if (further != NONE) {
                        return k;
                    }
                }
            }
            return NONE;
        }

        private static void turnRanks(int[] ranks, int k) {
            for (int a = 0, b = k - 1; a < b; a++, b--) {
                int rank = ranks[a];
                ranks[a] = ranks[b];
                ranks[b] = rank;
            }
        }
    }

    /** The old sailor, who reads the cord right along as words. */
    private static final class Sailor {
        private final int[] ways = new int[MAX_FLAGS + 1];

        int readings(Plan plan, Line line) {
            countWays(plan, line);
            return ways[0];
        }

        int firstReading(Plan plan, Line line) {
            countWays(plan, line);
            if (ways[0] == 0) {
                return NONE;
            }
            int row = 0;
            int p = 0;
            for (int step = 0; step < MAX_FLAGS && p < line.count; step++) {
                int w = firstWordOn(plan, line, p);
                if (w == NONE) {
                    return NONE;
                }
                row = row * 10 + w + 1;
                p += plan.wordLengths[w];
            }
            return row;
        }

        int spelt(Plan plan, Line line) {
            int places = 0;
            for (int p = 0; p < line.count; p++) {
                for (int w = 0; w < plan.words; w++) {
                    if (begins(plan, line, w, p)) {
                        places |= 1 << p;
                    }
                }
            }
            return places;
        }

        private void countWays(Plan plan, Line line) {
            ways[line.count] = 1;
            for (int p = line.count - 1; p >= 0; p--) {
                ways[p] = 0;
                for (int w = 0; w < plan.words; w++) {
                    if (begins(plan, line, w, p)) {
                        ways[p] += ways[p + plan.wordLengths[w]];
                    }
                }
            }
        }

        private int firstWordOn(Plan plan, Line line, int p) {
            for (int w = 0; w < plan.words; w++) {
                if (begins(plan, line, w, p) && ways[p + plan.wordLengths[w]] > 0) {
                    return w;
                }
            }
            return NONE;
        }

        private static boolean begins(Plan plan, Line line, int w, int p) {
            if (p + plan.wordLengths[w] > line.count) {
                return false;
            }
            for (int k = 0; k < plan.wordLengths[w]; k++) {
                if (plan.kinds[line.order[p + k]] != plan.wordKind(w, k)) {
                    return false;
                }
            }
            return true;
        }
    }

    /** Two who take flags from the ends by turns. */
    private static final class Takers {
        /** At p: how much more the one who begins has, of the flags from p on that a part is long. */
        private final int[] leads = new int[MAX_FLAGS + 1];

        int more(Plan plan, Line line) {
            if (line.count == 0) {
                return 0;
            }
            fillLeads(plan, line);
            return Math.max(byFront(plan, line), byBack(plan, line));
        }

        int firstEnd(Plan plan, Line line) {
            if (line.count == 0) {
                return NONE;
            }
            fillLeads(plan, line);
            return byBack(plan, line) > byFront(plan, line) ? 1 : 0;
        }

        private int byFront(Plan plan, Line line) {
            return plan.heavies[line.order[0]] - leads[1];
        }

        private int byBack(Plan plan, Line line) {
            return plan.heavies[line.order[line.count - 1]] - leads[0];
        }

        /** Up to parts that are one flag shorter than the whole: the first choice is weighed from those. */
        private void fillLeads(Plan plan, Line line) {
            Arrays.fill(leads, 0);
            for (int size = 1; size < line.count; size++) {
                for (int p = 0; p + size <= line.count; p++) {
                    int front = plan.heavies[line.order[p]] - leads[p + 1];
                    int back = plan.heavies[line.order[p + size - 1]] - leads[p];
                    leads[p] = Math.max(front, back);
                }
            }
        }
    }

    /** What is OLD: looks at an unknown flag, each by the number that NEXT gives it. */
    private static final class Looks {
        private final int[] asked = new int[MAX_LOOKS];
        private final boolean[] answers = new boolean[MAX_LOOKS];
        int count = 0;

        void add(int look, boolean is) {
            if (count < MAX_LOOKS) {
                asked[count] = look;
                answers[count] = is;
                count++;
            }
        }

        int fitting(Plan plan, int flags) {
            int left = flags;
            for (int i = 0; i < count; i++) {
                int yes = answering(plan, left, asked[i]);
                left = answers[i] ? yes : left & ~yes;
            }
            return left;
        }

        int bestLook(Plan plan, int flags) {
            int all = Integer.bitCount(flags);
            int best = NONE;
            int least = all;
            for (int look = 0; look <= HEAVY_LOOKS_FROM + MOST_HEAVY; look++) {
                int yes = Integer.bitCount(answering(plan, flags, look));
                int greater = Math.max(yes, all - yes);
                if (greater < least) {
                    least = greater;
                    best = look;
                }
            }
            return best;
        }

        /** Numbers between the kinds and the heavies are no look: no flag answers, so they part nothing. */
        private static int answering(Plan plan, int flags, int look) {
            int yes = 0;
            for (int f = 0; f < plan.flags; f++) {
                boolean fits = plan.kinds[f] == look || plan.heavies[f] + HEAVY_LOOKS_FROM == look;
                if (fits && hasBit(flags, f)) {
                    yes |= 1 << f;
                }
            }
            return yes;
        }
    }

    /** THE BOOK: which flag stood at a place, entry by entry. */
    private static final class Book {
        private final int[] places = new int[MAX_ENTRIES];
        private final int[] flags = new int[MAX_ENTRIES];
        int count = 0;

        void add(int place, int f) {
            if (count < MAX_ENTRIES) {
                places[count] = place;
                flags[count] = f;
                count++;
            }
        }

        int firstWrong(Line line) {
            for (int i = 0; i < count; i++) {
                if (line.flagAt(places[i]) != flags[i]) {
                    return i;
                }
            }
            return NONE;
        }
    }
}
