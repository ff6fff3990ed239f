import java.util.Arrays;

/**
 * What stands in a shop's window, who sees it and what comes of it.
 * The words in capitals are those of the document, ../shared/DOC.md.
 */
public final class ShopWindow {
    public static final int NONE = -6, UNKNOWN = -1, OUTSIDE = -2, STATE = -3, FULL = -4, NO = -5;
    public static final long LOST = -1000000000000000000L;

    private static final int THINGS = 5, PLACES = 5, KINDS = 4, SHOPS = 11, IMAGES = 2;
    private static final int SETS = 32, EVERY_THING = SETS - 1;
    private static final int CATCH = 0, COIN = 1, LOOKS = 2, TRAITS = 3;
    private static final int TO_THE_LEFT = 1, TO_THE_RIGHT = 2;
    private static final int SIDE = 0, GLANCES = 1, REACH = 2, BEEN = 3, WANTS = 4, MANY = 5, HABITS = 6;
    private static final int FROM_THE_RIGHT = 1;
    private static final int STOPS = 0, COMES = 1, LAWS = 2;
    private static final int MOST_SEEN = 4, ANSWERS = 2 * (MOST_SEEN + 1);
    private static final int LEAST_SIGN = 33, MOST_SIGN = 126;
    private static final int MOST_LIGHT = 9, MOST_OTHER = 99, MOST_BEEN = 18, MOST_TAKEN = 999, MOST_COUNTED = 999;
    private static final int WEEK_ASKED = -1, COSTS_ASKED = -2;
    private static final int HUNDRED = 100, WEEKS = 9, MOST_LIKELY = 1000;

    private static final int[] TRAIT_AT_FIRST = {5, 10, 0};
    private static final int[] TRAIT_MOST = {9, 99, 2};
    private static final int[] HABIT_AT_FIRST = {0, 2, 3, 0, 5, 0};
    private static final int[] HABIT_LEAST = {0, 1, 1, 0, 0, 0};
    private static final int[] HABIT_MOST = {1, 4, 5, 9, 5, 999};

    private final Pad pad = new Pad();
    private final Scene scene = new Scene();
    private final Scene[] images = new Scene[IMAGES];
    private final boolean[] imageKept = new boolean[IMAGES];
    private final Passers passers = new Passers(scene);
    private final Windows windows = new Windows(passers);
    private final Lottery lottery = new Lottery();
    private final int[] changed = new int[PLACES];

    public ShopWindow() {
        for (int n = 0; n < IMAGES; n++) {
            images[n] = new Scene();
        }
        pad.add('*');
        pad.add('s');
        pad.add('h');
        pad.becomeLaw(scene, STOPS);
        pad.add('h');
        pad.becomeLaw(scene, COMES);
    }

    // ---- 1 things, places

    public int thing(int thing, int what, int v) {
        if (!below(thing, THINGS)) {
            return UNKNOWN;
        }
        if (!below(what, TRAITS) || !between(v, 0, TRAIT_MOST[what])) {
            return OUTSIDE;
        }
        int was = scene.trait(thing, what);
        scene.traits[what * THINGS + thing] = v;
        windows.forget();
        return was;
    }

    public int light(int place, int v) {
        if (!below(place, PLACES)) {
            return UNKNOWN;
        }
        if (!between(v, 0, MOST_LIGHT)) {
            return OUTSIDE;
        }
        int was = scene.lights[place];
        scene.lights[place] = v;
        windows.forget();
        return was;
    }

    public int say(int sign) {
        if (!between(sign, LEAST_SIGN, MOST_SIGN)) {
            return OUTSIDE;
        }
        return pad.add(sign) ? pad.count : FULL;
    }

    public int wipe() {
        int were = pad.count;
        pad.count = 0;
        return were;
    }

    public int fault(int how) {
        if (!below(how, 2)) {
            return OUTSIDE;
        }
        return how == 0 ? pad.faultAsWindow() : pad.faultAsLaw();
    }

    public int window() {
        if (pad.faultAsWindow() != NONE) {
            return NO;
        }
        pad.becomeWindow(scene);
        return Integer.bitCount(scene.standing());
    }

    public int stands(int place) {
        return below(place, PLACES) ? scene.row[place] : UNKNOWN;
    }

    public int draws(int place, int been) {
        if (!below(place, PLACES)) {
            return UNKNOWN;
        }
        if (!between(been, 0, MOST_BEEN)) {
            return OUTSIDE;
        }
        passers.standBefore(scene.row);
        return passers.pullOn(place, been);
    }

    // ---- 2 people

    public int kind(int kind, int what, int v) {
        if (!below(kind, KINDS)) {
            return UNKNOWN;
        }
        if (!below(what, HABITS) || !between(v, HABIT_LEAST[what], HABIT_MOST[what])) {
            return OUTSIDE;
        }
        int was = scene.habit(kind, what);
        scene.habits[kind * HABITS + what] = v;
        windows.forget();
        return was;
    }

    public int law(int which) {
        if (!below(which, LAWS)) {
            return OUTSIDE;
        }
        if (pad.faultAsLaw() != NONE) {
            return NO;
        }
        int signs = pad.count;
        pad.becomeLaw(scene, which);
        windows.forget();
        return signs;
    }

    public int says(int which, int seen, int wanted) {
        if (!below(which, LAWS) || !between(seen, 0, MOST_SEEN) || !between(wanted, 0, 1)) {
            return OUTSIDE;
        }
        return scene.answer(which, seen, wanted);
    }

    public int part(int kind, int set) {
        if (!below(kind, KINDS)) {
            return UNKNOWN;
        }
        if (!below(set, SETS)) {
            return OUTSIDE;
        }
        passers.standBefore(scene.row);
        passers.goBy(kind, 0);
        return passers.parts[set];
    }

    public int seen(int kind, int thing) {
        if (!below(kind, KINDS) || !below(thing, THINGS)) {
            return UNKNOWN;
        }
        passers.standBefore(scene.row);
        passers.goBy(kind, 0);
        return passers.sawIt(thing);
    }

    public int does(int kind, int what) {
        if (!below(kind, KINDS)) {
            return UNKNOWN;
        }
        if (!below(what, 3)) {
            return OUTSIDE;
        }
        passers.standBefore(scene.row);
        passers.goBy(kind, 0);
        passers.reckon(kind);
        return what == 0 ? passers.stop : what == 1 ? passers.come : passers.pay;
    }

    public int week() {
        return passers.weekOf(scene.row, 0);
    }

    public int other(int v) {
        if (!between(v, 0, MOST_OTHER)) {
            return OUTSIDE;
        }
        int was = scene.otherCoin;
        scene.otherCoin = v;
        windows.forget();
        return was;
    }

    // ---- 3 what stands where

    public int best(int things, int place) {
        if (place != WEEK_ASKED && !below(place, PLACES)) {
            return UNKNOWN;
        }
        if (!below(things, SETS)) {
            return OUTSIDE;
        }
        int found = windows.greatest(things, 0, NONE);
        return place == WEEK_ASKED ? windows.weekAt(found) : windows.thingAt(found, place);
    }

    public int many(int n) {
        if (!between(n, 0, THINGS)) {
            return OUTSIDE;
        }
        return windows.weekAt(windows.greatest(EVERY_THING, 0, n));
    }

    public int exchanges(int what) {
        if (!below(what, 3)) {
            return OUTSIDE;
        }
        windows.climb(scene.row);
        if (what == 0) {
            return windows.steps;
        }
        return what == 1 ? windows.reached : greatestWeek() - windows.reached;
    }

    public int rid(int thing, int place) {
        boolean figure = place == WEEK_ASKED || place == COSTS_ASKED;
        if (!below(thing, THINGS) || !figure && !below(place, PLACES)) {
            return UNKNOWN;
        }
        int found = windows.greatest(EVERY_THING, 1 << thing, NONE);
        if (!figure) {
            return windows.thingAt(found, place);
        }
        int week = windows.weekAt(found);
        return place == WEEK_ASKED ? week : greatestWeek() - week;
    }

    public int stale(int share) {
        return between(share, 0, HUNDRED) ? firstWeekUnder(share) : OUTSIDE;
    }

    public int mends(int share) {
        if (!between(share, 0, HUNDRED)) {
            return OUTSIDE;
        }
        int more = firstWeekUnder(share);
        return more == NONE ? 0 : firstChangeThatMends(share, more);
    }

    private int greatestWeek() {
        return windows.weekAt(windows.greatest(EVERY_THING, 0, NONE));
    }

    private int firstWeekUnder(int share) {
        int now = passers.weekOf(scene.row, 0);
        for (int more = 1; more <= WEEKS; more++) {
            if (isUnder(passers.weekOf(scene.row, more), share, now)) {
                return more;
            }
        }
        return NONE;
    }

    private int firstChangeThatMends(int share, int more) {
        int now = passers.weekOf(scene.row, 0);
        for (int lesser = 0; lesser < PLACES; lesser++) {
            for (int place = lesser + 1; place < PLACES; place++) {
                System.arraycopy(scene.row, 0, changed, 0, PLACES);
                changed[lesser] = scene.row[place];
                changed[place] = scene.row[lesser];
                if (!isUnder(passers.weekOf(changed, more), share, now)) {
                    return 10 * lesser + place;
                }
            }
        }
        return NONE;
    }

    /** The share is no quotient in the document, so both sides are multiplied and nothing is cut. */
    private static boolean isUnder(int week, int share, int now) {
        return (long) week * HUNDRED < (long) now * share;
    }

    // ---- 4 shops, boys

    public int shop(int shop, int v, boolean tried) {
        if (!below(shop, SHOPS)) {
            return UNKNOWN;
        }
        if (!between(v, 0, MOST_TAKEN)) {
            return OUTSIDE;
        }
        int was = scene.taken[shop];
        scene.taken[shop] = v;
        int bit = 1 << shop;
        scene.triedIn = tried ? scene.triedIn | bit : scene.triedIn & ~bit;
        return was;
    }

    public long lot(int part) {
        if (!below(part, 2)) {
            return LOST + OUTSIDE;
        }
        lottery.draw(scene.taken, scene.triedIn);
        return part == 0 ? lottery.upper : lottery.lower;
    }

    public int boys(int n, int m, int b, int what) {
        if (!between(n, 0, MOST_COUNTED) || !between(m, 0, MOST_COUNTED)
                || !between(b, 0, Math.min(n, m)) || !below(what, 3)) {
            return OUTSIDE;
        }
        int surely = n + m - b;
        if (what == 0) {
            return surely;
        }
        if (b == 0) {
            return NONE;
        }
        int guess = n * m / b;
        return what == 1 ? guess : guess - surely;
    }

    public int image(int n) {
        if (!below(n, IMAGES)) {
            return OUTSIDE;
        }
        images[n].takeFrom(scene);
        imageKept[n] = true;
        return 1;
    }

    public int restore(int n) {
        if (!below(n, IMAGES)) {
            return OUTSIDE;
        }
        if (!imageKept[n]) {
            return STATE;
        }
        scene.takeFrom(images[n]);
        windows.forget();
        return 1;
    }

    public int told(int what) {
        switch (what) {
            case 0: return pad.count;
            case 1: return scene.standing();
            case 2: return scene.otherCoin;
            case 3: return scene.triedIn;
            default: return toldOfRows(what);
        }
    }

    private int toldOfRows(int what) {
        if (between(what, 50, 50 + KINDS * HABITS - 1)) {
            return scene.habits[what - 50];
        }
        int row = what / 10;
        int column = what % 10;
        if (!between(row, 1, 4) || !below(column, THINGS)) {
            return OUTSIDE;
        }
        return row == 4 ? scene.lights[column] : scene.trait(column, row - 1);
    }

    private static boolean below(int number, int bound) {
        return number >= 0 && number < bound;
    }

    private static boolean between(int number, int least, int most) {
        return number >= least && number <= most;
    }

    /** All but the signs: what an IMAGE keeps. */
    private static final class Scene {
        final int[] traits = new int[TRAITS * THINGS];
        final int[] lights = new int[PLACES];
        final int[] row = new int[PLACES];
        final int[] habits = new int[KINDS * HABITS];
        // A LAW is only ever asked for these few pairs, so its answers are kept in place of its text.
        final int[] answers = new int[LAWS * ANSWERS];
        final int[] taken = new int[SHOPS];
        int triedIn = 0;
        int otherCoin = 2;

        Scene() {
            for (int i = 0; i < traits.length; i++) {
                traits[i] = TRAIT_AT_FIRST[i / THINGS];
            }
            for (int i = 0; i < habits.length; i++) {
                habits[i] = HABIT_AT_FIRST[i % HABITS];
            }
            Arrays.fill(lights, 5);
            Arrays.fill(row, NONE);
        }

        void takeFrom(Scene that) {
            System.arraycopy(that.traits, 0, traits, 0, traits.length);
            System.arraycopy(that.lights, 0, lights, 0, lights.length);
            System.arraycopy(that.row, 0, row, 0, row.length);
            System.arraycopy(that.habits, 0, habits, 0, habits.length);
            System.arraycopy(that.answers, 0, answers, 0, answers.length);
            System.arraycopy(that.taken, 0, taken, 0, taken.length);
            triedIn = that.triedIn;
            otherCoin = that.otherCoin;
        }

        int trait(int thing, int what) {
            return traits[what * THINGS + thing];
        }

        int habit(int kind, int what) {
            return habits[kind * HABITS + what];
        }

        int answer(int which, int howMany, int wanted) {
            return answers[which * ANSWERS + 2 * howMany + wanted];
        }

        int standing() {
            int set = 0;
            for (int place = 0; place < PLACES; place++) {
                if (below(row[place], THINGS)) {
                    set |= 1 << row[place];
                }
            }
            return set;
        }
    }

    /** The signs said, and what is wrong with them as a WINDOW or as a LAW. */
    private static final class Pad {
        private static final int MOST_SIGNS = 40, MOST_LAW_SIGNS = 15, MOST_WITHIN = 6;

        private final int[] signs = new int[MOST_SIGNS];
        // How deep each text lies that must still come, the next one last; a sign adds one at most.
        private final int[] within = new int[MOST_LAW_SIGNS + 1];
        private final long[] values = new long[MOST_SIGNS];
        int count = 0;

        boolean add(int sign) {
            if (count >= MOST_SIGNS) {
                return false;
            }
            signs[count] = sign;
            count++;
            return true;
        }

        int faultAsWindow() {
            int used = 0;
            for (int i = 0; i < count; i++) {
                if (i >= PLACES) {
                    return i;
                }
                if (signs[i] == '-') {
                    continue;
                }
                int thing = signs[i] - 'a';
                if (!below(thing, THINGS) || (used >> thing & 1) == 1) {
                    return i;
                }
                used |= 1 << thing;
            }
            return NONE;
        }

        int faultAsLaw() {
            within[0] = 0;
            int due = 1;
            for (int i = 0; i < count; i++) {
                if (i >= MOST_LAW_SIGNS || due <= 0) {
                    return i;
                }
                due--;
                int depth = within[due];
                if (joinsTwo(signs[i])) {
                    if (depth >= MOST_WITHIN) {
                        return i;
                    }
                    within[due] = depth + 1;
                    within[due + 1] = depth + 1;
                    due += 2;
                } else if (!standsAlone(signs[i])) {
                    return i;
                }
            }
            return due == 0 ? NONE : count;
        }

        void becomeWindow(Scene scene) {
            for (int place = 0; place < PLACES; place++) {
                int thing = place < count ? signs[place] - 'a' : NONE;
                scene.row[place] = below(thing, THINGS) ? thing : NONE;
            }
            count = 0;
        }

        void becomeLaw(Scene scene, int which) {
            for (int i = 0; i < ANSWERS; i++) {
                long value = comesTo(i / 2, i % 2);
                scene.answers[which * ANSWERS + i] = (int) Math.max(0, Math.min(MOST_LIKELY, value));
            }
            count = 0;
        }

        /** Read from the end on, both parts of a sign that joins two are known when it comes. */
        private long comesTo(int howMany, int wanted) {
            int top = 0;
            for (int i = count - 1; i >= 0; i--) {
                if (!joinsTwo(signs[i])) {
                    values[top] = alone(signs[i], howMany, wanted);
                    top++;
                } else if (top >= 2) {
                    top--;
                    values[top - 1] = joined(signs[i], values[top], values[top - 1]);
                }
            }
            return values[0];
        }

        private static boolean joinsTwo(int sign) {
            return sign == '+' || sign == '-' || sign == '*' || sign == 'm';
        }

        private static boolean standsAlone(int sign) {
            return between(sign, '0', '9') || sign == 's' || sign == 'w' || sign == 'h';
        }

        private static long alone(int sign, int howMany, int wanted) {
            switch (sign) {
                case 's': return howMany;
                case 'w': return wanted;
                case 'h': return HUNDRED;
                default: return sign - '0';
            }
        }

        private static long joined(int sign, long first, long second) {
            switch (sign) {
                case '+': return first + second;
                case '-': return first - second;
                case '*': return first * second;
                default: return Math.min(first, second);
            }
        }
    }

    /** Those who go by a WINDOW: what draws them, what they have seen, what comes of it. */
    private static final class Passers {
        private static final int ALL = 1000000, THOUSAND = 1000;
        private static final int LOOKED_AT = 10, CROWDED = 3, UNCROWDED = 3;

        private final Scene scene;
        // Of the row they stand before: each PLACE's THING as a bit (0: nothing), what it DRAWS from a new one.
        private final int[] bits = new int[PLACES];
        private final int[] pulls = new int[PLACES];
        private final int[] drawn = new int[PLACES];
        final int[] parts = new int[SETS];
        int stop = 0;
        int come = 0;
        int pay = 0;

        Passers(Scene scene) {
            this.scene = scene;
        }

        void standBefore(int[] row) {
            int number = 0;
            for (int place = 0; place < PLACES; place++) {
                boolean something = below(row[place], THINGS);
                bits[place] = something ? 1 << row[place] : 0;
                pulls[place] = something ? scene.trait(row[place], CATCH) * scene.lights[place] : 0;
                number += something ? 1 : 0;
            }
            int less = CROWDED * Math.max(0, number - UNCROWDED);
            lookBeside(row);
            for (int place = 0; place < PLACES; place++) {
                pulls[place] = bits[place] == 0 ? 0 : Math.max(1, pulls[place] - less);
            }
        }

        private void lookBeside(int[] row) {
            for (int place = 0; place < PLACES; place++) {
                int looks = bits[place] == 0 ? 0 : scene.trait(row[place], LOOKS);
                if (looks == TO_THE_LEFT && place > 0) {
                    pulls[place - 1] += LOOKED_AT;
                } else if (looks == TO_THE_RIGHT && place < PLACES - 1) {
                    pulls[place + 1] += LOOKED_AT;
                }
            }
        }

        int pullOn(int place, int been) {
            int times = Math.max(1, 1 + been);
            return pulls[place] == 0 ? 0 : Math.max(1, pulls[place] / times);
        }

        /** One of a KIND, having BEEN so much more often, goes by: leaves the PARTS of all SETS. */
        void goBy(int kind, int more) {
            int been = scene.habit(kind, BEEN) + more;
            for (int place = 0; place < PLACES; place++) {
                drawn[place] = pullOn(place, been);
            }
            Arrays.fill(parts, 0);
            parts[0] = ALL;
            boolean fromRight = scene.habit(kind, SIDE) == FROM_THE_RIGHT;
            int glances = Math.min(PLACES, scene.habit(kind, GLANCES));
            for (int near = 0; near < glances; near++) {
                int far = Math.min(PLACES, near + scene.habit(kind, REACH)) - 1;
                int from = fromRight ? PLACES - 1 - far : near;
                int to = fromRight ? PLACES - 1 - near : far;
                // A PART only goes to SETS of greater number: downwards none is met twice in one glance.
                for (int set = SETS - 1; set >= 0; set--) {
                    if (parts[set] > 0) {
                        glance(set, from, to);
                    }
                }
            }
        }

        private void glance(int set, int from, int to) {
            int all = 0;
            int last = -1;
            for (int place = from; place <= to; place++) {
                if ((bits[place] & ~set) != 0) {
                    all += drawn[place];
                    last = place;
                }
            }
            if (last < 0 || all <= 0) {
                return;
            }
            int whole = parts[set];
            int left = whole;
            parts[set] = 0;
            for (int place = from; place < last; place++) {
                if ((bits[place] & ~set) != 0) {
                    int some = whole * drawn[place] / all;
                    parts[set | bits[place]] += some;
                    left -= some;
                }
            }
            parts[set | bits[last]] += left;
        }

        int sawIt(int thing) {
            int sum = 0;
            for (int set = 0; set < SETS; set++) {
                if ((set >> thing & 1) == 1) {
                    sum += parts[set];
                }
            }
            return sum;
        }

        /** What comes of the PARTS that goBy left: STOP, COME, PAY, each SET's quotients cut by themselves. */
        void reckon(int kind) {
            stop = 0;
            come = 0;
            pay = 0;
            int wish = scene.habit(kind, WANTS);
            boolean wishes = below(wish, THINGS);
            int wishCoin = wishes ? scene.trait(wish, COIN) : 0;
            for (int set = 0; set < SETS; set++) {
                int howMany = Integer.bitCount(set);
                if (parts[set] == 0 || howMany > MOST_SEEN) {
                    continue;
                }
                int wanted = wishes ? set >> wish & 1 : 0;
                int stopped = parts[set] * scene.answer(STOPS, howMany, wanted) / MOST_LIKELY;
                int came = stopped * scene.answer(COMES, howMany, wanted) / MOST_LIKELY;
                stop += stopped;
                come += came;
                pay += came * (wanted == 1 ? wishCoin : scene.otherCoin);
            }
        }

        int weekOf(int[] row, int more) {
            standBefore(row);
            long sum = 0;
            for (int kind = 0; kind < KINDS; kind++) {
                int people = scene.habit(kind, MANY);
                if (people > 0) {
                    goBy(kind, more);
                    reckon(kind);
                    sum += (long) pay * people;
                }
            }
            return (int) (sum / THOUSAND);
        }
    }

    /**
     * All WINDOWS that may be, each as a number: three bits a PLACE, PLACE 0 foremost, 0 nothing,
     * 1 to 5 the THINGS; so of two the first by PLACE 0, 1, ... has the lesser number.
     */
    private static final class Windows {
        private static final int ALL_WINDOWS = 1546, HALVINGS = 11;
        private static final int BITS = 3, MASK = 7, NOT_RECKONED = -1;
        private static final int MOST_STEPS = 20, MOST_OFFERS = 40;

        private final Passers passers;
        private final int[] numbers = new int[ALL_WINDOWS];
        private final int[] sets = new int[ALL_WINDOWS];
        private int listed = 0;
        // Many calls ask for the same WEEKS: they are kept until something changes that they hang on.
        private final int[] weeks = new int[ALL_WINDOWS];
        private boolean weeksHold = false;
        private final int[] shown = new int[PLACES];
        private final int[] climbing = new int[PLACES];
        private final int[] offers = new int[MOST_OFFERS];
        private int offered = 0;
        int steps = 0;
        int reached = 0;

        Windows(Passers passers) {
            this.passers = passers;
        }

        void forget() {
            weeksHold = false;
        }

        private void makeReady() {
            if (listed == 0) {
                list(this, 0, 0, 0);
            }
            if (!weeksHold) {
                Arrays.fill(weeks, NOT_RECKONED);
                weeksHold = true;
            }
        }

        /** Lists all WINDOWS that go on from a PLACE, the lesser numbers first; no deeper than there are PLACES. */
        private static void list(Windows all, int place, int number, int set) {
            if (place >= PLACES) {
                all.add(number, set);
                return;
            }
            list(all, place + 1, number << BITS, set);
            for (int thing = 0; thing < THINGS; thing++) {
                if ((set >> thing & 1) == 0) {
                    list(all, place + 1, number << BITS | thing + 1, set | 1 << thing);
                }
            }
        }

        private void add(int number, int set) {
            if (listed < ALL_WINDOWS) {
                numbers[listed] = number;
                sets[listed] = set;
                listed++;
            }
        }

        int weekAt(int at) {
            if (!below(at, ALL_WINDOWS)) {
                return NONE;
            }
            if (weeks[at] == NOT_RECKONED) {
                for (int place = 0; place < PLACES; place++) {
                    shown[place] = thingAt(at, place);
                }
                weeks[at] = passers.weekOf(shown, 0);
            }
            return weeks[at];
        }

        int thingAt(int at, int place) {
            if (!below(at, ALL_WINDOWS)) {
                return NONE;
            }
            int digit = numbers[at] >> BITS * (PLACES - 1 - place) & MASK;
            return digit == 0 ? NONE : digit - 1;
        }

        /** Which is best of the WINDOWS of THINGS that may stand, with those that must, so many (NONE: any number). */
        int greatest(int may, int must, int size) {
            makeReady();
            int found = -1;
            int week = -1;
            int fewest = 0;
            for (int at = 0; at < ALL_WINDOWS; at++) {
                int number = Integer.bitCount(sets[at]);
                boolean fits = (sets[at] & ~may) == 0 && (must & ~sets[at]) == 0;
                if (!fits || size != NONE && size != number) {
                    continue;
                }
                int here = weekAt(at);
                if (here > week || here == week && number < fewest) {
                    found = at;
                    week = here;
                    fewest = number;
                }
            }
            return found;
        }

        /** EXCHANGES from a row: leaves how many there were and WEEK behind them. */
        void climb(int[] row) {
            makeReady();
            System.arraycopy(row, 0, climbing, 0, PLACES);
            reached = weekAt(whichClimbs());
            for (steps = 0; steps < MOST_STEPS; steps++) {
                offered = 0;
                offerChangesAbout();
                offerPuttings();
                offerTakings();
                int taken = greatestOffer();
                if (taken < 0) {
                    return;
                }
                for (int place = 0; place < PLACES; place++) {
                    climbing[place] = thingAt(taken, place);
                }
            }
        }

        private int greatestOffer() {
            int taken = -1;
            for (int i = 0; i < offered; i++) {
                int week = weekAt(offers[i]);
                if (week > reached) {
                    reached = week;
                    taken = offers[i];
                }
            }
            return taken;
        }

        private void offerChangesAbout() {
            for (int lesser = 0; lesser < PLACES; lesser++) {
                for (int place = lesser + 1; place < PLACES; place++) {
                    changeAbout(lesser, place);
                    offer();
                    changeAbout(lesser, place);
                }
            }
        }

        private void changeAbout(int one, int two) {
            int stood = climbing[one];
            climbing[one] = climbing[two];
            climbing[two] = stood;
        }

        private void offerPuttings() {
            int standing = sets[whichClimbs()];
            for (int place = 0; place < PLACES; place++) {
                int stood = climbing[place];
                for (int thing = 0; thing < THINGS; thing++) {
                    if ((standing >> thing & 1) == 0) {
                        climbing[place] = thing;
                        offer();
                    }
                }
                climbing[place] = stood;
            }
        }

        private void offerTakings() {
            for (int place = 0; place < PLACES; place++) {
                int stood = climbing[place];
                climbing[place] = NONE;
                offer();
                climbing[place] = stood;
            }
        }

        private void offer() {
            if (offered < MOST_OFFERS) {
                offers[offered] = whichClimbs();
                offered++;
            }
        }

        /** Where the row that climbs is listed: 0 to ALL_WINDOWS less 1. */
        private int whichClimbs() {
            int number = 0;
            for (int place = 0; place < PLACES; place++) {
                int digit = climbing[place] < 0 ? 0 : climbing[place] + 1;
                number = number << BITS | digit;
            }
            int low = 0;
            int high = ALL_WINDOWS - 1;
            for (int i = 0; i < HALVINGS && low < high; i++) {
                int middle = (low + high) / 2;
                if (numbers[middle] < number) {
                    low = middle + 1;
                } else {
                    high = middle;
                }
            }
            return low;
        }
    }

    /** How many of all ways to choose SHOPS are no worse than the way that was chosen. */
    private static final class Lottery {
        private static final int MOST_DIVISIONS = 64;

        long upper = 1;
        long lower = 1;

        void draw(int[] taken, int chosen) {
            int size = Integer.bitCount(chosen);
            int together = sumOf(taken, chosen);
            int ways = 0;
            int noLess = 0;
            for (int set = 0; set < 1 << SHOPS; set++) {
                if (Integer.bitCount(set) == size) {
                    ways++;
                    noLess += sumOf(taken, set) >= together ? 1 : 0;
                }
            }
            int divisor = Math.max(1, commonDivisor(ways, noLess));
            upper = noLess / divisor;
            lower = ways / divisor;
        }

        private static int sumOf(int[] taken, int set) {
            int sum = 0;
            for (int shop = 0; shop < SHOPS; shop++) {
                if ((set >> shop & 1) == 1) {
                    sum += taken[shop];
                }
            }
            return sum;
        }

        private static int commonDivisor(int one, int two) {
            int greater = one;
            int lesser = two;
            for (int i = 0; i < MOST_DIVISIONS && lesser > 0; i++) {
                int rest = greater % lesser;
                greater = lesser;
                lesser = rest;
            }
            return greater;
        }
    }
}
