import java.math.BigInteger;
import java.util.ArrayList;
import java.util.List;
import java.util.TreeMap;
import java.util.TreeSet;

/**
 * The document once more, told as slowly and as literally as can be: WINDOWS and LAWS are texts, SETS are
 * texts of letters in a map, nothing is kept from one call to the next. ModelTest holds the class against it.
 */
final class PlainModel {
    private static final int NONE = -6, UNKNOWN = -1, OUTSIDE = -2, STATE = -3, FULL = -4, NO = -5;
    private static final String LETTERS = "abcde";

    /** All but signs. */
    private static final class Kept implements Cloneable {
        int[][] things = {{5, 10, 0}, {5, 10, 0}, {5, 10, 0}, {5, 10, 0}, {5, 10, 0}};
        int[] lights = {5, 5, 5, 5, 5};
        String window = "-----";
        int[][] kinds = {{0, 2, 3, 0, 5, 0}, {0, 2, 3, 0, 5, 0}, {0, 2, 3, 0, 5, 0}, {0, 2, 3, 0, 5, 0}};
        String[] laws = {"*sh", "h"};
        int other = 2;
        int[] came = new int[11];
        boolean[] tried = new boolean[11];

        Kept copy() {
            Kept k = new Kept();
            for (int i = 0; i < 5; i++) {
                k.things[i] = things[i].clone();
            }
            for (int i = 0; i < 4; i++) {
                k.kinds[i] = kinds[i].clone();
            }
            k.lights = lights.clone();
            k.window = window;
            k.laws = laws.clone();
            k.other = other;
            k.came = came.clone();
            k.tried = tried.clone();
            return k;
        }
    }

    private Kept k = new Kept();
    private final Kept[] images = new Kept[2];
    private String pad = "";

    private static boolean in(int v, int least, int most) {
        return least <= v && v <= most;
    }

    // ---- 1

    int thing(int thing, int what, int v) {
        if (!in(thing, 0, 4)) return UNKNOWN;
        if (!in(what, 0, 2)) return OUTSIDE;
        if (!in(v, 0, what == 0 ? 9 : what == 1 ? 99 : 2)) return OUTSIDE;
        int was = k.things[thing][what];
        k.things[thing][what] = v;
        return was;
    }

    int light(int place, int v) {
        if (!in(place, 0, 4)) return UNKNOWN;
        if (!in(v, 0, 9)) return OUTSIDE;
        int was = k.lights[place];
        k.lights[place] = v;
        return was;
    }

    int say(int sign) {
        if (!in(sign, 33, 126)) return OUTSIDE;
        if (pad.length() == 40) return FULL;
        pad += (char) sign;
        return pad.length();
    }

    int wipe() {
        int n = pad.length();
        pad = "";
        return n;
    }

    int fault(int how) {
        if (!in(how, 0, 1)) return OUTSIDE;
        return how == 0 ? windowFault() : lawFault();
    }

    private int windowFault() {
        for (int i = 0; i < pad.length(); i++) {
            char c = pad.charAt(i);
            boolean may = i < 5 && (c == '-' || LETTERS.indexOf(c) >= 0 && pad.indexOf(c) == i);
            if (!may) return i;
        }
        return NONE;
    }

    /** Where a text ends that begins at i within so many others; -1 less where it is at fault, if it is. */
    private int lawEnd(int i, int within) {
        if (i >= pad.length() || i >= 15) return -1 - Math.min(i, pad.length());
        char c = pad.charAt(i);
        if ("0123456789swh".indexOf(c) >= 0) return i + 1;
        if ("+-*m".indexOf(c) < 0 || within == 6) return -1 - i;
        int half = lawEnd(i + 1, within + 1);
        return half < 0 ? half : lawEnd(half, within + 1);
    }

    private int lawFault() {
        int end = lawEnd(0, 0);
        if (end < 0) return -1 - end;
        return end < pad.length() ? end : NONE;
    }

    int window() {
        if (windowFault() != NONE) return NO;
        k.window = (pad + "-----").substring(0, 5);
        pad = "";
        return thingsIn(k.window);
    }

    private static int thingsIn(String window) {
        return 5 - (int) window.chars().filter(c -> c == '-').count();
    }

    int stands(int place) {
        if (!in(place, 0, 4)) return UNKNOWN;
        return standing(k.window, place);
    }

    private static int standing(String window, int place) {
        char c = window.charAt(place);
        return c == '-' ? NONE : c - 'a';
    }

    int draws(int place, int been) {
        if (!in(place, 0, 4)) return UNKNOWN;
        if (!in(been, 0, 18)) return OUTSIDE;
        return k.window.charAt(place) == '-' ? 0 : drawsOf(k.window, place, been);
    }

    private int drawsOf(String window, int place, int been) {
        int[] own = k.things[window.charAt(place) - 'a'];
        int pull = own[0] * k.lights[place];
        String wide = "-" + window + "-";
        char left = wide.charAt(place);
        char right = wide.charAt(place + 2);
        if (left != '-' && k.things[left - 'a'][2] == 2) pull += 10;
        if (right != '-' && k.things[right - 'a'][2] == 1) pull += 10;
        for (int n = 4; n <= thingsIn(window); n++) pull -= 3;
        if (pull < 1) pull = 1;
        int by = pull / (1 + been);
        return by < 1 ? 1 : by;
    }

    // ---- 2

    int kind(int kind, int what, int v) {
        if (!in(kind, 0, 3)) return UNKNOWN;
        if (!in(what, 0, 5)) return OUTSIDE;
        int least = what == 1 || what == 2 ? 1 : 0;
        int most = what == 0 ? 1 : what == 1 ? 4 : what == 2 ? 5 : what == 3 ? 9 : what == 4 ? 5 : 999;
        if (!in(v, least, most)) return OUTSIDE;
        int was = k.kinds[kind][what];
        k.kinds[kind][what] = v;
        return was;
    }

    int law(int which) {
        if (!in(which, 0, 1)) return OUTSIDE;
        if (lawFault() != NONE) return NO;
        k.laws[which] = pad;
        return wipe();
    }

    int says(int which, int seen, int wanted) {
        if (!in(which, 0, 1) || !in(seen, 0, 4) || !in(wanted, 0, 1)) return OUTSIDE;
        return lawSays(which, seen, wanted);
    }

    private int lawSays(int which, int seen, int wanted) {
        BigInteger v = new Reader(k.laws[which], seen, wanted).next();
        BigInteger most = BigInteger.valueOf(1000);
        return v.signum() < 0 ? 0 : v.compareTo(most) > 0 ? 1000 : v.intValueExact();
    }

    private static final class Reader {
        private final String text;
        private final int seen;
        private final int wanted;
        private int at = 0;

        Reader(String text, int seen, int wanted) {
            this.text = text;
            this.seen = seen;
            this.wanted = wanted;
        }

        BigInteger next() {
            char c = text.charAt(at++);
            if (c == 's') return BigInteger.valueOf(seen);
            if (c == 'w') return BigInteger.valueOf(wanted);
            if (c == 'h') return BigInteger.valueOf(100);
            if (Character.isDigit(c)) return BigInteger.valueOf(c - '0');
            BigInteger first = next();
            BigInteger second = next();
            if (c == '+') return first.add(second);
            if (c == '-') return first.subtract(second);
            return c == '*' ? first.multiply(second) : first.min(second);
        }
    }

    /** PARTS behind all glances, by the letters that were seen, in order; those of none are left out. */
    private TreeMap<String, Long> parts(String window, int[] kind, int more) {
        TreeMap<String, Long> now = new TreeMap<>();
        now.put("", 1_000_000L);
        for (int g = 0; g < kind[1]; g++) {
            List<Integer> reached = new ArrayList<>();
            for (int place = 0; place < 5; place++) {
                int counted = kind[0] == 0 ? place : 4 - place;
                if (counted >= g && counted <= g + kind[2] - 1 && window.charAt(place) != '-') reached.add(place);
            }
            TreeMap<String, Long> then = new TreeMap<>();
            for (String set : now.keySet()) {
                goOver(then, set, now.get(set), fresh(window, reached, set), window, kind[3] + more);
            }
            now = then;
        }
        return now;
    }

    private static List<Integer> fresh(String window, List<Integer> reached, String set) {
        List<Integer> may = new ArrayList<>(reached);
        may.removeIf(place -> set.indexOf(window.charAt(place)) >= 0);
        return may;
    }

    private void goOver(TreeMap<String, Long> then, String set, long part, List<Integer> may, String window, int been) {
        if (may.isEmpty()) {
            then.merge(set, part, Long::sum);
            return;
        }
        long all = 0;
        for (int place : may) all += drawsOf(window, place, been);
        long left = part;
        for (int i = 0; i < may.size(); i++) {
            int place = may.get(i);
            long goes = i == may.size() - 1 ? left : part * drawsOf(window, place, been) / all;
            left -= goes;
            TreeSet<Character> letters = new TreeSet<>();
            for (char c : (set + window.charAt(place)).toCharArray()) letters.add(c);
            StringBuilder with = new StringBuilder();
            for (char c : letters) with.append(c);
            then.merge(with.toString(), goes, Long::sum);
        }
    }

    int part(int kind, int set) {
        if (!in(kind, 0, 3)) return UNKNOWN;
        if (!in(set, 0, 31)) return OUTSIDE;
        StringBuilder letters = new StringBuilder();
        for (int t = 0; t < 5; t++) if ((set & 1 << t) != 0) letters.append(LETTERS.charAt(t));
        return (int) (long) parts(k.window, k.kinds[kind], 0).getOrDefault(letters.toString(), 0L);
    }

    int seen(int kind, int thing) {
        if (!in(kind, 0, 3) || !in(thing, 0, 4)) return UNKNOWN;
        long sum = 0;
        TreeMap<String, Long> parts = parts(k.window, k.kinds[kind], 0);
        for (String set : parts.keySet()) if (set.indexOf(LETTERS.charAt(thing)) >= 0) sum += parts.get(set);
        return (int) sum;
    }

    /** STOP, COME, PAY. */
    private long[] done(String window, int[] kind, int more) {
        long[] sums = new long[3];
        TreeMap<String, Long> parts = parts(window, kind, more);
        for (String set : parts.keySet()) {
            boolean wish = kind[4] < 5 && set.indexOf(LETTERS.charAt(kind[4])) >= 0;
            long stop = parts.get(set) * lawSays(0, set.length(), wish ? 1 : 0) / 1000;
            long come = stop * lawSays(1, set.length(), wish ? 1 : 0) / 1000;
            sums[0] += stop;
            sums[1] += come;
            sums[2] += come * (wish ? k.things[kind[4]][1] : k.other);
        }
        return sums;
    }

    int does(int kind, int what) {
        if (!in(kind, 0, 3)) return UNKNOWN;
        if (!in(what, 0, 2)) return OUTSIDE;
        return (int) done(k.window, k.kinds[kind], 0)[what];
    }

    private int weekOf(String window, int more) {
        long sum = 0;
        for (int[] kind : k.kinds) if (kind[5] != 0) sum += done(window, kind, more)[2] * kind[5];
        return (int) (sum / 1000);
    }

    int week() {
        return weekOf(k.window, 0);
    }

    int other(int v) {
        if (!in(v, 0, 99)) return OUTSIDE;
        int was = k.other;
        k.other = v;
        return was;
    }

    // ---- 3

    /** Texts of WINDOWS in the order of the document: '-' is ahead of 'a' among the signs, too. */
    private static TreeSet<String> all() {
        TreeSet<String> texts = new TreeSet<>();
        texts.add("");
        for (int place = 0; place < 5; place++) {
            TreeSet<String> longer = new TreeSet<>();
            for (String text : texts) {
                longer.add(text + "-");
                for (char c : LETTERS.toCharArray()) if (text.indexOf(c) < 0) longer.add(text + c);
            }
            texts = longer;
        }
        return texts;
    }

    private String bestOf(int things, int with) {
        String best = null;
        int greatest = 0;
        for (int n = 0; n <= 5; n++) {
            for (String window : all()) {
                if (thingsIn(window) != n || (bits(window) & ~things) != 0 || (bits(window) & with) != with) continue;
                int week = weekOf(window, 0);
                if (best == null || week > greatest) {
                    best = window;
                    greatest = week;
                }
            }
        }
        return best;
    }

    private static int bits(String window) {
        int bits = 0;
        for (char c : window.toCharArray()) if (c != '-') bits |= 1 << c - 'a';
        return bits;
    }

    int best(int things, int place) {
        if (!in(place, -1, 4)) return UNKNOWN;
        if (!in(things, 0, 31)) return OUTSIDE;
        String best = bestOf(things, 0);
        return place == -1 ? weekOf(best, 0) : standing(best, place);
    }

    int many(int n) {
        if (!in(n, 0, 5)) return OUTSIDE;
        int greatest = Integer.MIN_VALUE;
        for (String window : all()) if (thingsIn(window) == n) greatest = Math.max(greatest, weekOf(window, 0));
        return greatest;
    }

    private static String put(String window, int place, char c) {
        return window.substring(0, place) + c + window.substring(place + 1);
    }

    private static String changedAbout(String window, int one, int two) {
        return put(put(window, one, window.charAt(two)), two, window.charAt(one));
    }

    int exchanges(int what) {
        if (!in(what, 0, 2)) return OUTSIDE;
        String window = k.window;
        int times = 0;
        while (times < 20) {
            List<String> ways = new ArrayList<>();
            for (int i = 0; i < 5; i++) for (int j = i + 1; j < 5; j++) ways.add(changedAbout(window, i, j));
            for (int i = 0; i < 5; i++) {
                for (char c : LETTERS.toCharArray()) if (window.indexOf(c) < 0) ways.add(put(window, i, c));
            }
            for (int i = 0; i < 5; i++) if (window.charAt(i) != '-') ways.add(put(window, i, '-'));
            String first = ways.get(0);
            for (String way : ways) if (weekOf(way, 0) > weekOf(first, 0)) first = way;
            if (weekOf(first, 0) <= weekOf(window, 0)) break;
            window = first;
            times++;
        }
        if (what == 0) return times;
        return what == 1 ? weekOf(window, 0) : best(31, -1) - weekOf(window, 0);
    }

    int rid(int thing, int place) {
        if (!in(thing, 0, 4) || !in(place, -2, 4)) return UNKNOWN;
        String with = bestOf(31, 1 << thing);
        if (place == -2) return best(31, -1) - weekOf(with, 0);
        return place == -1 ? weekOf(with, 0) : standing(with, place);
    }

    int stale(int share) {
        if (!in(share, 0, 100)) return OUTSIDE;
        for (int w = 1; w <= 9; w++) if (weekOf(k.window, w) * 100L < week() * (long) share) return w;
        return NONE;
    }

    int mends(int share) {
        if (!in(share, 0, 100)) return OUTSIDE;
        int w = stale(share);
        if (w == NONE) return 0;
        for (int i = 0; i < 5; i++) {
            for (int j = i + 1; j < 5; j++) {
                if (weekOf(changedAbout(k.window, i, j), w) * 100L >= week() * (long) share) return 10 * i + j;
            }
        }
        return NONE;
    }

    // ---- 4

    int shop(int shop, int v, boolean tried) {
        if (!in(shop, 0, 10)) return UNKNOWN;
        if (!in(v, 0, 999)) return OUTSIDE;
        int was = k.came[shop];
        k.came[shop] = v;
        k.tried[shop] = tried;
        return was;
    }

    long lot(int part) {
        if (!in(part, 0, 1)) return -1_000_000_000_000_000_002L;
        int number = 0;
        int together = 0;
        for (int s = 0; s < 11; s++) {
            if (k.tried[s]) {
                number++;
                together += k.came[s];
            }
        }
        long[] ways = new long[2];
        choose(0, number, together, ways);
        long common = BigInteger.valueOf(ways[0]).gcd(BigInteger.valueOf(ways[1])).longValueExact();
        return ways[part] / common;
    }

    /** Counts the ways to choose so many from a SHOP on: those that take at least so much, and all. */
    private void choose(int shop, int number, int atLeast, long[] ways) {
        if (number == 0) {
            ways[1]++;
            if (atLeast <= 0) ways[0]++;
            return;
        }
        if (shop == 11) return;
        choose(shop + 1, number - 1, atLeast - k.came[shop], ways);
        choose(shop + 1, number, atLeast, ways);
    }

    int boys(int n, int m, int b, int what) {
        if (!in(n, 0, 999) || !in(m, 0, 999) || !in(b, 0, Math.min(n, m)) || !in(what, 0, 2)) return OUTSIDE;
        if (what == 0) return n + m - b;
        if (b == 0) return NONE;
        return what == 1 ? n * m / b : n * m / b - (n + m - b);
    }

    int image(int n) {
        if (!in(n, 0, 1)) return OUTSIDE;
        images[n] = k.copy();
        return 1;
    }

    int restore(int n) {
        if (!in(n, 0, 1)) return OUTSIDE;
        if (images[n] == null) return STATE;
        k = images[n].copy();
        return 1;
    }

    int told(int what) {
        if (what == 0) return pad.length();
        if (what == 1) return bits(k.window);
        if (what == 2) return k.other;
        if (what == 3) {
            int tried = 0;
            for (int s = 0; s < 11; s++) if (k.tried[s]) tried |= 1 << s;
            return tried;
        }
        for (int t = 0; t < 5; t++) {
            if (what == 10 + t) return k.things[t][0];
            if (what == 20 + t) return k.things[t][1];
            if (what == 30 + t) return k.things[t][2];
            if (what == 40 + t) return k.lights[t];
        }
        for (int kind = 0; kind < 4; kind++) {
            for (int w = 0; w < 6; w++) if (what == 50 + 6 * kind + w) return k.kinds[kind][w];
        }
        return OUTSIDE;
    }
}
