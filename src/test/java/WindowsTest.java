/** Promises 18 to 23: BEST, HOW MANY, EXCHANGES, RID, STALE, MENDS. */
public final class WindowsTest {
    private static final int[] FAR = {Integer.MIN_VALUE, -6, -3, 5, 6, Integer.MAX_VALUE};
    private static final int SIDE = 0, GLANCES = 1, REACH = 2, BEEN = 3, WANTS = 4, MANY = 5;
    private static final int NONE = ShopWindow.NONE;

    private static final Check CHECK = new Check();

    private static void due(String call, long got, long want) {
        CHECK.due(call, got, want);
    }

    public static void main(String[] args) {
        ofNobody();
        oneWish();
        twoMustBeSeen();
        byPlace();
        someThings();
        newAfterEachChange();
        exchanges();
        exchangesOfEachSort();
        exchangesStayBehind();
        windowStays();
        stale();
        staleShares();
        mends();
        refused();
        CHECK.end();
    }

    private static void best(ShopWindow x, int things, int week, int... row) {
        due("18: best(" + things + ", -1)", x.best(things, -1), week);
        for (int place = 0; place < 5; place++) {
            due("18: best(" + things + ", " + place + ")", x.best(things, place), row[place]);
        }
    }

    private static void rid(ShopWindow x, int thing, int week, int costs, int... row) {
        due("21: rid(" + thing + ", -1)", x.rid(thing, -1), week);
        due("21: rid(" + thing + ", -2)", x.rid(thing, -2), costs);
        for (int place = 0; place < 5; place++) {
            due("21: rid(" + thing + ", " + place + ")", x.rid(thing, place), row[place]);
        }
    }

    private static void ofNobody() {
        ShopWindow x = new ShopWindow();
        Check.stand(x, "abcde");
        for (int things = 0; things < 32; things++) {
            best(x, things, 0, NONE, NONE, NONE, NONE, NONE);
        }
        for (int n = 0; n <= 5; n++) {
            due("19: many(" + n + ")", x.many(n), 0);
        }
        for (int thing = 0; thing < 5; thing++) {
            rid(x, thing, 0, 0, NONE, NONE, NONE, NONE, thing);
        }
        due("20: exchanges(0)", x.exchanges(0), 0);
        due("20: exchanges(1)", x.exchanges(1), 0);
        due("20: exchanges(2)", x.exchanges(2), 0);
        due("22: stale(100)", x.stale(100), NONE);
        due("23: mends(100)", x.mends(100), 0);
    }

    /** One glance over all PLACES, a is wanted, of 99: all else takes glances from it. */
    private static void oneWish() {
        ShopWindow x = new ShopWindow();
        x.kind(0, GLANCES, 1);
        x.kind(0, REACH, 5);
        x.kind(0, WANTS, 0);
        x.kind(0, MANY, 10);
        x.thing(0, 1, 99);
        best(x, 31, 9900, NONE, NONE, NONE, NONE, 0);
        best(x, 1, 9900, NONE, NONE, NONE, NONE, 0);
        // Without a each of the others is as good as two of them.
        best(x, 30, 200, NONE, NONE, NONE, NONE, 1);
        best(x, 24, 200, NONE, NONE, NONE, NONE, 3);
        best(x, 0, 0, NONE, NONE, NONE, NONE, NONE);
        due("19: many(0)", x.many(0), 0);
        due("19: many(1)", x.many(1), 9900);
        due("19: many(2)", x.many(2), 5050);
        rid(x, 0, 9900, 0, NONE, NONE, NONE, NONE, 0);
        // 5000 of a at 99, 5000 of the other one at 2.
        rid(x, 1, 5050, 4850, NONE, NONE, NONE, 0, 1);
        rid(x, 4, 5050, 4850, NONE, NONE, NONE, 0, 4);
        // The best one need not have THING 0.
        x.kind(0, WANTS, 1);
        x.thing(1, 1, 99);
        rid(x, 0, 5050, 4850, NONE, NONE, NONE, 0, 1);
        Check.law(x, 0, "*h-s1");
        x.kind(0, GLANCES, 2);
        // Two must be seen: no single exchange leads there from an empty WINDOW.
        exchanged(x, 0, 0, 9900);
        Check.law(x, 0, "*sh");
        x.kind(0, GLANCES, 1);
        x.kind(0, WANTS, 0);
        x.thing(1, 1, 10);
        // Out of reach it costs nothing: of two THINGS that with nothing at the first PLACES.
        x.kind(0, REACH, 4);
        rid(x, 4, 9900, 0, NONE, NONE, NONE, 0, 4);
        x.kind(0, REACH, 2);
        rid(x, 4, 9900, 0, NONE, 0, NONE, NONE, 4);
        x.kind(0, SIDE, 1);
        rid(x, 4, 9900, 0, NONE, NONE, 4, NONE, 0);
    }

    /** One stops who has seen two: one glance less than that is worth nothing. */
    private static void twoMustBeSeen() {
        ShopWindow x = new ShopWindow();
        Check.law(x, 0, "*h-s1");
        x.kind(3, REACH, 5);
        x.kind(3, MANY, 50);
        best(x, 31, 1000, NONE, NONE, NONE, 0, 1);
        best(x, 28, 1000, NONE, NONE, NONE, 2, 3);
        best(x, 16, 0, NONE, NONE, NONE, NONE, NONE);
        due("19: many(0)", x.many(0), 0);
        due("19: many(1)", x.many(1), 0);
        due("19: many(2)", x.many(2), 1000);
        // 333332, 333334, 333334: three times 3333 come in.
        due("19: many(3)", x.many(3), 999);
        rid(x, 0, 1000, 0, NONE, NONE, NONE, 0, 1);
        rid(x, 2, 1000, 0, NONE, NONE, NONE, 0, 2);
        due("20: no exchange makes it greater", x.exchanges(0), 0);
        due("20: WEEK behind none", x.exchanges(1), 0);
        due("20: LOSES all", x.exchanges(2), 1000);
    }

    private static void byPlace() {
        ShopWindow x = new ShopWindow();
        x.kind(0, GLANCES, 1);
        x.kind(0, REACH, 1);
        x.kind(0, MANY, 50);
        best(x, 31, 1000, 0, NONE, NONE, NONE, NONE);
        best(x, 12, 1000, 2, NONE, NONE, NONE, NONE);
        rid(x, 3, 1000, 0, 3, NONE, NONE, NONE, NONE);
        x.kind(0, WANTS, 2);
        best(x, 31, 5000, 2, NONE, NONE, NONE, NONE);
        rid(x, 3, 5000, 0, 2, NONE, NONE, NONE, 3);
        // The other side wants d at PLACE 4.
        x.kind(1, SIDE, 1);
        x.kind(1, GLANCES, 1);
        x.kind(1, REACH, 1);
        x.kind(1, MANY, 30);
        x.kind(1, WANTS, 3);
        best(x, 31, 8000, 2, NONE, NONE, NONE, 3);
        best(x, 8, 3000, NONE, NONE, NONE, NONE, 3);
        rid(x, 0, 8000, 0, 2, NONE, NONE, 0, 3);
        due("19: many(1)", x.many(1), 5000);
        due("19: many(2)", x.many(2), 8000);
        due("19: many(5)", x.many(5), 8000);
    }

    private static void someThings() {
        ShopWindow x = new ShopWindow();
        x.kind(0, GLANCES, 1);
        x.kind(0, REACH, 1);
        x.kind(0, MANY, 1);
        x.kind(0, WANTS, 4);
        x.thing(4, 1, 20);
        for (int things = 0; things < 32; things++) {
            int week = (things & 16) != 0 ? 200 : things != 0 ? 20 : 0;
            int first = (things & 16) != 0 ? 4 : things == 0 ? NONE : Integer.numberOfTrailingZeros(things);
            best(x, things, week, first, NONE, NONE, NONE, NONE);
        }
    }

    /** What one search has found is not told again when anything that it hangs on has changed. */
    private static void newAfterEachChange() {
        ShopWindow x = new ShopWindow();
        x.kind(0, GLANCES, 1);
        x.kind(0, REACH, 5);
        x.kind(0, MANY, 10);
        x.kind(0, WANTS, 0);
        due("18: at first", x.best(31, -1), 1000);
        x.thing(0, 1, 30);
        due("18: behind thing", x.best(31, -1), 3000);
        due("19: behind thing", x.many(2), 1600);
        x.light(0, 9);
        due("19: behind light: a 45, b 25 of 70", x.many(2), (6428 * 30 + 3571 * 2) / 100);
        x.kind(0, MANY, 20);
        due("18: behind kind", x.best(31, -1), 6000);
        x.image(0);
        Check.law(x, 0, "*5h");
        due("18: behind law", x.best(31, -1), 30000);
        Check.law(x, 1, "*2h");
        due("18: behind law", x.best(31, -1), 60000);
        x.other(50);
        due("18: behind other", x.best(31, -1), 100000);
        due("18: behind other, nothing need stand there", x.best(31, 4), NONE);
        x.restore(0);
        due("18: behind restore", x.best(31, -1), 6000);
        due("18: behind restore, a", x.best(31, 4), 0);
        due("21: behind restore", x.rid(0, -1), 6000);
    }

    private static void exchanged(ShopWindow x, int times, int week, int loses) {
        due("20: exchanges(0)", x.exchanges(0), times);
        due("20: exchanges(1)", x.exchanges(1), week);
        due("20: exchanges(2)", x.exchanges(2), loses);
    }

    private static void exchanges() {
        ShopWindow x = new ShopWindow();
        x.kind(0, GLANCES, 1);
        x.kind(0, REACH, 1);
        x.kind(0, WANTS, 2);
        x.kind(0, MANY, 50);
        x.kind(1, SIDE, 1);
        x.kind(1, GLANCES, 1);
        x.kind(1, REACH, 1);
        x.kind(1, WANTS, 3);
        x.kind(1, MANY, 30);
        // c to PLACE 0, then d to PLACE 4.
        exchanged(x, 2, 8000, 0);
        Check.stand(x, "c---d");
        exchanged(x, 0, 8000, 0);
        Check.stand(x, "d---c");
        exchanged(x, 1, 8000, 0);
        Check.stand(x, "abcde");
        exchanged(x, 2, 8000, 0);
        Check.stand(x, "-----");
        exchanged(x, 2, 8000, 0);
        // The last of all WINDOWS is found, too.
        x.kind(0, WANTS, 4);
        x.kind(1, WANTS, 0);
        Check.stand(x, "edcba");
        exchanged(x, 0, 8000, 0);
    }

    /** Each sort of exchange alone can make WEEK greater. */
    private static void exchangesOfEachSort() {
        ShopWindow x = new ShopWindow();
        x.kind(0, GLANCES, 1);
        x.kind(0, REACH, 5);
        x.kind(0, WANTS, 0);
        x.kind(0, MANY, 10);
        Check.stand(x, "ab");
        exchanged(x, 1, 1000, 0);
        Check.stand(x, "b");
        exchanged(x, 1, 1000, 0);
        Check.stand(x, "");
        exchanged(x, 1, 1000, 0);
        Check.stand(x, "ba");
        exchanged(x, 1, 1000, 0);
        Check.stand(x, "---ba");
        exchanged(x, 1, 1000, 0);
        Check.stand(x, "---ab");
        exchanged(x, 1, 1000, 0);
        Check.stand(x, "abc");
        exchanged(x, 2, 1000, 0);
        Check.stand(x, "abcde");
        exchanged(x, 4, 1000, 0);
        x.kind(0, REACH, 1);
        // Changed about with nothing: ahead of the puttings, with which it is as great.
        Check.stand(x, "-a");
        exchanged(x, 1, 1000, 0);
        Check.stand(x, "edcba");
        exchanged(x, 1, 1000, 0);
        // d can not be put a second time: it must be changed about.
        x.kind(0, WANTS, 3);
        Check.stand(x, "eabcd");
        exchanged(x, 1, 1000, 0);
    }

    private static void exchangesStayBehind() {
        ShopWindow x = new ShopWindow();
        Check.law(x, 0, "*h-s1");
        x.kind(0, REACH, 5);
        x.kind(0, MANY, 50);
        exchanged(x, 0, 0, 1000);
        Check.stand(x, "-a");
        exchanged(x, 1, 1000, 0);
        // The second glance does not reach PLACE 0: with a there it is 500 at first.
        Check.stand(x, "a");
        exchanged(x, 2, 1000, 0);
        Check.stand(x, "--abc");
        exchanged(x, 1, 1000, 0);
        // One stops who sees nothing: all must go, one after the other.
        Check.law(x, 0, "-h*5*s9");
        Check.stand(x, "--a");
        exchanged(x, 1, 1000, 0);
        Check.stand(x, "ab");
        exchanged(x, 2, 1000, 0);
        best(x, 31, 1000, NONE, NONE, NONE, NONE, NONE);
    }

    private static void windowStays() {
        ShopWindow x = new ShopWindow();
        x.kind(0, MANY, 50);
        x.kind(0, WANTS, 0);
        Check.stand(x, "-cb-e");
        int week = x.week();
        for (int i = 0; i < 3; i++) {
            x.exchanges(i);
            x.best(31, i);
            x.rid(i, -1);
            x.many(i);
            x.stale(90);
            x.mends(99);
        }
        int[] row = {NONE, 2, 1, NONE, 4};
        for (int place = 0; place < 5; place++) {
            due("20: the WINDOW stays, " + place, x.stands(place), row[place]);
        }
        due("20: week() stays", x.week(), week);
        due("22: BEEN stays", x.told(53), 0);
    }

    /** a draws 81, b draws 1: the oftener one has BEEN, the less a draws. */
    private static ShopWindow growsStale() {
        ShopWindow x = new ShopWindow();
        x.thing(0, 0, 9);
        x.thing(1, 0, 1);
        x.light(0, 9);
        x.light(1, 1);
        x.kind(0, GLANCES, 1);
        x.kind(0, WANTS, 0);
        x.kind(0, MANY, 100);
        Check.stand(x, "ab");
        return x;
    }

    private static void stale() {
        ShopWindow x = growsStale();
        // 9878 at 10 and 121 at 2; in week 7 9090 and 909, in week 8 9000 and 1000, in week 9 8888 and 1111.
        due("22: WEEK as it is", x.week(), 9902);
        due("22: stale(100)", x.stale(100), 1);
        due("22: stale(93)", x.stale(93), 8);
        due("22: stale(92): 9110 is no less than 9109.84", x.stale(92), NONE);
        due("22: stale(0)", x.stale(0), NONE);
        x.kind(0, BEEN, 9);
        due("22: WEEK, having BEEN", x.week(), 9110);
        // 81 by 10 is 8, by 19 is 4: 8000 and 2000.
        due("22: stale(93)", x.stale(93), 7);
        due("22: stale(92)", x.stale(92), NONE);
        x.kind(1, MANY, 999);
        x.kind(1, WANTS, 0);
        x.kind(1, GLANCES, 1);
        x.kind(1, REACH, 1);
        due("22: one KIND to whom all is the same", x.stale(99), NONE);
        x.kind(1, MANY, 0);
        due("22: without them", x.stale(93), 7);
    }

    /** A share is no quotient: 90 of a hundred of 987 is more than 888. */
    private static void staleShares() {
        ShopWindow x = new ShopWindow();
        Check.law(x, 0, "*hh");
        Check.law(x, 1, "*hh");
        x.thing(0, 0, 9);
        x.thing(1, 0, 1);
        x.light(0, 9);
        x.light(1, 1);
        x.kind(0, GLANCES, 1);
        x.kind(0, MANY, 1);
        x.kind(0, WANTS, 0);
        x.thing(0, 1, 1);
        x.other(0);
        Check.stand(x, "ab");
        due("22: WEEK as it is", x.week(), 987);
        // WEEK is 975, 964, 952, 941, 928, 916, 909, 900, 888.
        due("22: 99 of 987 is 977.13", x.stale(99), 1);
        due("22: 98 of 987 is 967.26", x.stale(98), 2);
        due("22: 96 of 987 is 947.52", x.stale(96), 4);
        due("22: 94 of 987 is 927.78", x.stale(94), 6);
        due("22: 90 of 987 is 888.3: 888 is less", x.stale(90), 9);
        due("22: 89 of 987 is 878.43", x.stale(89), NONE);
        due("22: 100", x.stale(100), 1);
    }

    private static void mends() {
        ShopWindow x = growsStale();
        // Week 8: with b out of reach it is 10000; else a draws less or b as much.
        due("23: mends(93)", x.mends(93), 13);
        due("23: mends(92): not STALE", x.mends(92), 0);
        due("23: mends(0): not STALE", x.mends(0), 0);
        x.kind(0, REACH, 4);
        due("23: b one PLACE farther", x.mends(93), 14);
        x.kind(0, REACH, 5);
        due("23: all is in reach", x.mends(93), NONE);
        // 72 to 1: in week 8 8 to 1; at PLACE 2, in more light, 9 to 1.
        x.light(0, 8);
        x.light(2, 9);
        due("22: stale(93)", x.stale(93), 8);
        due("23: a to PLACE 2", x.mends(93), 2);
        x.light(2, 8);
        due("23: in no more light", x.mends(93), NONE);
        x.light(1, 9);
        x.light(2, 1);
        Check.stand(x, "a-b");
        due("22: stale(93)", x.stale(93), 8);
        due("23: a to PLACE 1", x.mends(93), 1);
        Check.stand(x, "a");
        due("23: a alone is never STALE", x.mends(100), 0);
    }

    private static void refused() {
        ShopWindow x = new ShopWindow();
        int[] wrongSets = {Integer.MIN_VALUE, -1, 32, Integer.MAX_VALUE};
        for (int far : FAR) {
            due("18: best(0, " + far + ")", x.best(0, far), ShopWindow.UNKNOWN);
            due("18: UNKNOWN is ahead of OUTSIDE", x.best(32, far), ShopWindow.UNKNOWN);
            due("21: rid(0, " + far + ")", x.rid(0, far), ShopWindow.UNKNOWN);
            due("21: rid(" + far + ", 0)", x.rid(far, 0), ShopWindow.UNKNOWN);
            due("21: rid(" + far + ", -1)", x.rid(far, -1), ShopWindow.UNKNOWN);
        }
        due("18: best(0, -2)", x.best(0, -2), ShopWindow.UNKNOWN);
        due("21: rid(-1, -2)", x.rid(-1, -2), ShopWindow.UNKNOWN);
        for (int things : wrongSets) {
            due("18: best(" + things + ", -1)", x.best(things, -1), ShopWindow.OUTSIDE);
            due("18: best(" + things + ", 4)", x.best(things, 4), ShopWindow.OUTSIDE);
            due("19: many(" + things + ")", x.many(things), ShopWindow.OUTSIDE);
            due("20: exchanges(" + things + ")", x.exchanges(things), ShopWindow.OUTSIDE);
        }
        due("19: many(6)", x.many(6), ShopWindow.OUTSIDE);
        due("20: exchanges(3)", x.exchanges(3), ShopWindow.OUTSIDE);
        int[] wrongShares = {Integer.MIN_VALUE, -1, 101, Integer.MAX_VALUE};
        for (int share : wrongShares) {
            due("22: stale(" + share + ")", x.stale(share), ShopWindow.OUTSIDE);
            due("23: mends(" + share + ")", x.mends(share), ShopWindow.OUTSIDE);
        }
    }
}
