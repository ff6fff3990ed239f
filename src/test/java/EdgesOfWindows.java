/** Promises 18 to 23 and what the Terms say for them, one method a sentence. */
final class EdgesOfWindows {
    private static final int NONE = ShopWindow.NONE, UNKNOWN = ShopWindow.UNKNOWN, OUTSIDE = ShopWindow.OUTSIDE;
    private static final int CATCH = 0, COIN = 1, LOOKS = 2, LEFT = 1, RIGHT = 2;
    private static final int SIDE = 0, GLANCES = 1, REACH = 2, BEEN = 3, WANTS = 4, MANY = 5;
    private static final int A = 1, B = 2, C = 4, D = 8, E = 16;
    private static final String BEST_ORDER = "of several that of the fewest THINGS, then the first by PLACE 0, 1, ..."
            + " (nothing ahead of a, b, ...).";
    private static final String EXCHANGE_ORDER = "of several the first: changes about by the lesser PLACE, then the"
            + " other one; then puttings by PLACE, THING; then takings by PLACE";

    private final Edge e;

    EdgesOfWindows(Edge e) {
        this.e = e;
    }

    void all() {
        thoseAlone();
        anyNoneAnywhere();
        fewestThings();
        firstByPlace();
        best();
        howMany();
        many();
        changedAbout();
        put();
        takenOut();
        greatestIfGreater();
        changesInOrder();
        puttingsInOrder();
        takingsInOrder();
        twentyTimes();
        loses();
        exchanges();
        ridWithIt();
        ridOrder();
        costs();
        rid();
        shares();
        weeksOneToNine();
        eachKind();
        stale();
        firstTwoPlaces();
        asItIs();
        noLess();
        mends();
    }

    /** 10 of KIND 0 go by with some glances and some reach, WANT a THING. */
    private static ShopWindow ten(int glances, int reach, int wish) {
        ShopWindow x = new ShopWindow();
        x.kind(0, GLANCES, glances);
        x.kind(0, REACH, reach);
        x.kind(0, WANTS, wish);
        x.kind(0, MANY, 10);
        return x;
    }

    private void best(String of, ShopWindow x, int things, int week, int... row) {
        e.due(of + ": best(" + things + ", -1)", x.best(things, -1), week);
        for (int place = 0; place < 5; place++) {
            e.due(of + ": best(" + things + ", " + place + ")", x.best(things, place), row[place]);
        }
    }

    private void rid(String of, ShopWindow x, int thing, int week, int... row) {
        e.due(of + ": rid(" + thing + ", -1)", x.rid(thing, -1), week);
        for (int place = 0; place < 5; place++) {
            e.due(of + ": rid(" + thing + ", " + place + ")", x.rid(thing, place), row[place]);
        }
    }

    private void thoseAlone() {
        e.sentence(18, "BEST of some THINGS (bits; those alone may stand)");
        ShopWindow x = ten(1, 1, 0);
        Check.stand(x, "abcde");
        best("with a", x, 31, 1000, 0, NONE, NONE, NONE, NONE);
        best("a alone", x, A, 1000, 0, NONE, NONE, NONE, NONE);
        best("without a", x, 30, 200, 1, NONE, NONE, NONE, NONE);
        best("d, e", x, D | E, 200, 3, NONE, NONE, NONE, NONE);
        best("e alone", x, E, 200, 4, NONE, NONE, NONE, NONE);
        best("no THING may stand", x, 0, 0, NONE, NONE, NONE, NONE, NONE);
    }

    private void anyNoneAnywhere() {
        e.sentence(18, "of all WINDOWS of them (any of them, none, at any PLACES) that of the greatest WEEK");
        // One stops who sees nothing.
        ShopWindow x = ten(1, 5, 5);
        Check.law(x, 0, "-h*hs");
        best("none", x, 31, 200, NONE, NONE, NONE, NONE, NONE);
        best("none of none", x, 0, 200, NONE, NONE, NONE, NONE, NONE);
        // One stops who sees four, PLACE by PLACE.
        x = ten(4, 1, 5);
        Check.law(x, 0, "*h-s3");
        best("four from the left", x, 31, 200, 0, 1, 2, 3, NONE);
        best("four without a", x, 30, 200, 1, 2, 3, 4, NONE);
        best("three are too few", x, A | B | C, 0, NONE, NONE, NONE, NONE, NONE);
        x.kind(0, SIDE, 1);
        best("four from the right", x, 31, 200, NONE, 0, 1, 2, 3);
        // Both sides, all five PLACES are worth it, and all five THINGS.
        x.kind(1, GLANCES, 4);
        x.kind(1, REACH, 1);
        x.kind(1, MANY, 10);
        best("all five", x, 31, 400, 0, 1, 2, 3, 4);
        x.kind(0, WANTS, 4);
        x.kind(1, WANTS, 4);
        x.thing(4, COIN, 99);
        best("e where both see it, the first of these", x, 31, 19800, 0, 1, 2, 4, 3);
    }

    private void fewestThings() {
        e.sentence(18, BEST_ORDER);
        best("nobody: the empty WINDOW", new ShopWindow(), 31, 0, NONE, NONE, NONE, NONE, NONE);
        // From the left b at PLACE 0, from the right b at PLACE 4 and another one beside it: 2000 either way.
        ShopWindow x = bothWays();
        best("b alone, though with a it would be first by PLACE", x, 31, 2000, 1, NONE, NONE, NONE, NONE);
        x.kind(0, MANY, 19);
        best("b alone is worth less", x, 31, 2000, NONE, NONE, NONE, 0, 1);
        x.kind(0, MANY, 21);
        best("b alone is worth more", x, 31, 2100, 1, NONE, NONE, NONE, NONE);
    }

    private static ShopWindow bothWays() {
        ShopWindow x = ten(1, 1, 1);
        x.other(0);
        x.kind(0, MANY, 20);
        x.kind(1, SIDE, 1);
        x.kind(1, REACH, 1);
        x.kind(1, WANTS, 1);
        x.kind(1, MANY, 10);
        return x;
    }

    private void firstByPlace() {
        e.sentence(18, BEST_ORDER);
        ShopWindow x = ten(1, 5, 5);
        best("nothing is ahead of a at PLACES 0 to 3", x, 31, 200, NONE, NONE, NONE, NONE, 0);
        best("b is ahead of c", x, B | C, 200, NONE, NONE, NONE, NONE, 1);
        best("d is ahead of e", x, D | E, 200, NONE, NONE, NONE, NONE, 3);
        x.kind(0, REACH, 4);
        best("PLACE 4 is not seen", x, 31, 200, NONE, NONE, NONE, 0, NONE);
        x.kind(0, REACH, 1);
        best("PLACE 0 alone is seen", x, 31, 200, 0, NONE, NONE, NONE, NONE);
        x = ten(2, 5, 5);
        Check.law(x, 0, "*h-s1");
        best("of two the lesser first", x, 31, 200, NONE, NONE, NONE, 0, 1);
        best("of two the lesser first", x, C | E, 200, NONE, NONE, NONE, 2, 4);
    }

    private void best() {
        e.sentence(18, "BEST of some THINGS: WEEK (place = -1), the THING at a PLACE (NONE: nothing)."
                + " UNKNOWN: the PLACE; OUTSIDE: the THINGS.");
        ShopWindow x = ten(1, 1, 4);
        e.due("best(0, -1)", x.best(0, -1), 0);
        e.due("best(31, -1)", x.best(31, -1), 1000);
        e.due("best(31, 0)", x.best(31, 0), 4);
        e.due("best(31, 4)", x.best(31, 4), NONE);
        for (int place : Edge.beyond(-1, 4)) {
            e.due("best(31, " + place + ")", x.best(31, place), UNKNOWN);
            e.due("best(32, " + place + "): UNKNOWN is ahead", x.best(32, place), UNKNOWN);
        }
        for (int things : Edge.beyond(0, 31)) {
            e.due("best(" + things + ", -1)", x.best(things, -1), OUTSIDE);
            e.due("best(" + things + ", 4)", x.best(things, 4), OUTSIDE);
        }
    }

    private void howMany() {
        e.sentence(19, "HOW MANY of n (0 to 5): the greatest WEEK of WINDOWS with just n THINGS of all five.");
        // One stops who sees nothing at PLACE 0: with five THINGS there is none left to be empty.
        ShopWindow x = ten(1, 1, 5);
        Check.law(x, 0, "-h*hs");
        Check.stand(x, "a");
        for (int n = 0; n <= 4; n++) {
            e.due("many(" + n + ")", x.many(n), 200);
        }
        e.due("many(5)", x.many(5), 0);
        // One stops who sees one: just none is too few.
        Check.law(x, 0, "*sh");
        e.due("many(0)", x.many(0), 0);
        for (int n = 1; n <= 5; n++) {
            e.due("many(" + n + ")", x.many(n), 200);
        }
        // Just n, not n at most: a second one takes half of the glances.
        x = ten(1, 5, 4);
        x.other(0);
        e.due("many(1)", x.many(1), 1000);
        e.due("many(2)", x.many(2), 500);
        e.due("many(0)", x.many(0), 0);
    }

    private void many() {
        e.sentence(19, "HOW MANY: the greatest WEEK with just n THINGS. OUTSIDE.");
        ShopWindow x = ten(1, 1, 0);
        e.due("many(0)", x.many(0), 0);
        e.due("many(5)", x.many(5), 1000);
        for (int n : Edge.beyond(0, 5)) {
            e.due("many(" + n + ")", x.many(n), OUTSIDE);
        }
    }

    private void exchanged(String of, ShopWindow x, int times, int week, int loses) {
        e.due(of + ": exchanges(0)", x.exchanges(0), times);
        e.due(of + ": exchanges(1)", x.exchanges(1), week);
        e.due(of + ": exchanges(2)", x.exchanges(2), loses);
    }

    private void exchangedFrom(ShopWindow x, String window, int times, int week, int loses) {
        Check.stand(x, window);
        exchanged(window, x, times, week, loses);
    }

    private void changedAbout() {
        e.sentence(20, "change what stands at two PLACES about (nothing, too)");
        // a is at PLACE 0 at once, though it can not be put there: it stands in the WINDOW.
        ShopWindow x = ten(1, 1, 0);
        x.other(0);
        exchangedFrom(x, "ba", 1, 1000, 0);
        exchangedFrom(x, "b---a", 1, 1000, 0);
        exchangedFrom(x, "-a", 1, 1000, 0);
        exchangedFrom(x, "----a", 1, 1000, 0);
        exchangedFrom(x, "edcba", 1, 1000, 0);
        x.kind(0, SIDE, 1);
        exchangedFrom(x, "---a-", 1, 1000, 0);
        exchangedFrom(x, "a----", 1, 1000, 0);
    }

    private void put() {
        e.sentence(20, "or put a THING that does not stand there in the place of what stands at one (nothing, too)");
        ShopWindow x = ten(1, 1, 4);
        x.other(0);
        exchangedFrom(x, "a", 1, 1000, 0);
        exchangedFrom(x, "abcd-", 1, 1000, 0);
        exchangedFrom(x, "-bcda", 1, 1000, 0);
        exchangedFrom(x, "", 1, 1000, 0);
        x.kind(0, SIDE, 1);
        exchangedFrom(x, "abcd-", 1, 1000, 0);
        exchangedFrom(x, "-abcd", 1, 1000, 0);
        // What stands there can not be put: a second e would be seen from the left, too.
        x.kind(1, REACH, 1);
        x.kind(1, GLANCES, 1);
        x.kind(1, WANTS, 4);
        x.kind(1, MANY, 5);
        exchangedFrom(x, "----e", 0, 1000, 0);
        exchangedFrom(x, "e----", 1, 1000, 0);
    }

    private void takenOut() {
        e.sentence(20, "or take one out");
        ShopWindow x = ten(1, 5, 0);
        x.other(0);
        for (String window : new String[] {"ab", "ba", "a---b", "b---a", "-a-b-"}) {
            exchangedFrom(x, window, 1, 1000, 0);
        }
        exchangedFrom(x, "abc", 2, 1000, 0);
        exchangedFrom(x, "edcba", 4, 1000, 0);
        // The last one can be taken out, too: one stops who sees nothing.
        x = ten(1, 5, 5);
        Check.law(x, 0, "-h*hs");
        exchangedFrom(x, "--c", 1, 200, 0);
        exchangedFrom(x, "", 0, 200, 0);
        // One at a time: with a or b or c left it is no greater.
        x = ten(1, 5, 5);
        Check.law(x, 0, "-h*hs");
        exchangedFrom(x, "abc", 0, 0, 200);
    }

    private void greatestIfGreater() {
        e.sentence(20, "that by which WEEK is greatest, if it is greater");
        // Put a or b at PLACE 0: greater; put c there: greatest.
        ShopWindow x = ten(1, 1, 2);
        exchangedFrom(x, "", 1, 1000, 0);
        exchangedFrom(x, "--c", 1, 1000, 0);
        // As great is not greater.
        exchangedFrom(x, "c", 0, 1000, 0);
        exchangedFrom(x, "cabde", 0, 1000, 0);
        ShopWindow nobody = new ShopWindow();
        exchangedFrom(nobody, "", 0, 0, 0);
        exchangedFrom(nobody, "abcde", 0, 0, 0);
        exchangedFrom(nobody, "-a-b-", 0, 0, 0);
    }

    private void changesInOrder() {
        e.sentence(20, EXCHANGE_ORDER);
        // -c-ae and e--ac are 3000; from e--ac nothing is greater.
        exchangedFrom(ten(4, 3, 4), "ec-a-", 3, 3634, 0);
        // -ed-c and -e-dc are 3000; by -e-dc it would be one exchange less.
        exchangedFrom(ten(4, 3, 3), "de--c", 4, 3634, 0);
        // PLACES 1 and 4 are ahead of 2 and 3: cea-- and c--ae are 2533, from c--ae nothing is greater.
        ShopWindow x = ten(2, 5, 0);
        x.kind(1, MANY, 20);
        exchangedFrom(x, "c-a-e", 2, 2800, 0);
        // Changes ahead of puttings: -deac and cdeab are 599, from cdeab nothing is greater.
        x = ten(3, 3, 5);
        x.light(3, 9);
        exchangedFrom(x, "cdea-", 2, 600, 0);
        // Changes ahead of takings: cabde and c-dbe are 1625; from c-dbe it would be one exchange less.
        x = ten(2, 3, 1);
        x.light(2, 8);
        exchangedFrom(x, "cadbe", 3, 2000, 0);
    }

    private void puttingsInOrder() {
        e.sentence(20, EXCHANGE_ORDER);
        // a at PLACE 0 is ahead of PLACES 1 to 4: a----, ab---, -ba--.
        exchangedFrom(ten(2, 5, 5), "", 3, 400, 0);
        // c at PLACE 3 is ahead of b at PLACE 4, that would be one exchange less.
        ShopWindow x = ten(4, 3, 5);
        x.thing(1, LOOKS, LEFT);
        x.thing(4, LOOKS, RIGHT);
        exchangedFrom(x, "a-d--", 5, 753, 0);
        // At PLACE 4 a is ahead of c, that would be one exchange more.
        x = ten(4, 3, 5);
        x.thing(2, LOOKS, RIGHT);
        exchangedFrom(x, "-edb-", 2, 747, 0);
    }

    private void takingsInOrder() {
        e.sentence(20, EXCHANGE_ORDER);
        // Puttings ahead of takings: e-bda and e--da are 2400, from e--da nothing is greater.
        ShopWindow x = ten(2, 3, 4);
        x.kind(1, MANY, 20);
        x.kind(1, WANTS, 1);
        x.kind(1, GLANCES, 1);
        exchangedFrom(x, "e-cda", 4, 4000, 0);
        // ---eb and a---b are 2200, from a---b nothing is greater.
        x = ten(2, 3, 5);
        x.kind(1, MANY, 10);
        x.kind(1, WANTS, 1);
        x.kind(1, REACH, 4);
        exchangedFrom(x, "a--eb", 2, 2400, 0);
    }

    /** A WINDOW from which 24 exchanges, one after another, would make WEEK greater. */
    private static ShopWindow longWay() {
        ShopWindow x = new ShopWindow();
        int[] catches = {0, 1, 1, 4, 9};
        int[] coins = {74, 6, 37, 96, 13};
        int[] looks = {2, 2, 0, 1, 1};
        int[] lights = {3, 1, 1, 4, 6};
        int[] habits = {0, 2, 1, 2, 0, 183, 1, 3, 2, 0, 1, 58, 0, 4, 5, 7, 0, 751, 0, 1, 5, 4, 4, 156};
        for (int i = 0; i < 5; i++) {
            x.thing(i, CATCH, catches[i]);
            x.thing(i, COIN, coins[i]);
            x.thing(i, LOOKS, looks[i]);
            x.light(i, lights[i]);
        }
        for (int i = 0; i < habits.length; i++) {
            x.kind(i / 6, i % 6, habits[i]);
        }
        x.other(75);
        Check.law(x, 1, "mmw8+64");
        return x;
    }

    private void twentyTimes() {
        e.sentence(20, "again and again, 20 times at most");
        ShopWindow x = longWay();
        exchangedFrom(x, "bdeca", 4, 19410, 0);
        exchangedFrom(x, "ca--b", 19, 19410, 0);
        exchangedFrom(x, "ca--e", 20, 19410, 0);
        exchangedFrom(x, "-a--e", 20, 19388, 22);
        exchangedFrom(x, "-a-e-", 20, 19330, 80);
        exchangedFrom(x, "---d-", 20, 19201, 209);
    }

    private void loses() {
        e.sentence(20, "LOSES: BEST of all five THINGS less that.");
        // One stops who sees two: no exchange leads there from an empty WINDOW.
        ShopWindow x = ten(2, 5, 5);
        Check.law(x, 0, "*h-s1");
        exchangedFrom(x, "", 0, 0, 200);
        exchangedFrom(x, "--a--", 1, 200, 0);
        exchangedFrom(new ShopWindow(), "abc", 0, 0, 0);
        // BEST of all five, not of those that stand there: e--da is at its end with 2400, with b it is 4000.
        x = ten(2, 3, 4);
        x.kind(1, MANY, 20);
        x.kind(1, WANTS, 1);
        x.kind(1, GLANCES, 1);
        exchangedFrom(x, "e--da", 0, 2400, 1600);
    }

    private void exchanges() {
        e.sentence(20, "EXCHANGES: how many (what = 0), WEEK behind them (1), LOSES (2); the WINDOW stays. OUTSIDE.");
        ShopWindow x = ten(1, 1, 0);
        Check.stand(x, "--b-a");
        for (int what : Edge.beyond(0, 2)) {
            e.due("exchanges(" + what + ")", x.exchanges(what), OUTSIDE);
        }
        exchanged("--b-a", x, 1, 1000, 0);
        int[] row = {NONE, NONE, 1, NONE, 0};
        for (int place = 0; place < 5; place++) {
            e.due("stands(" + place + ") behind it", x.stands(place), row[place]);
        }
        e.due("week() behind it", x.week(), 0);
        exchanged("--b-a again", x, 1, 1000, 0);
    }

    private void ridWithIt() {
        e.sentence(21, "RID of a THING: of all WINDOWS with it (any other THINGS, at any PLACES) that of the greatest WEEK");
        // b at PLACE 0 is wanted: any other one stands where it is not seen.
        ShopWindow x = ten(1, 1, 1);
        x.other(0);
        rid("a", x, 0, 1000, 1, NONE, NONE, NONE, 0);
        rid("b alone", x, 1, 1000, 1, NONE, NONE, NONE, NONE);
        rid("e", x, 4, 1000, 1, NONE, NONE, NONE, 4);
        // All PLACES are seen: the other one takes half.
        x = ten(1, 5, 1);
        x.other(0);
        rid("a", x, 0, 500, NONE, NONE, NONE, 0, 1);
        rid("c", x, 2, 500, NONE, NONE, NONE, 1, 2);
        // The one that one wants to be rid of can be worth something by itself.
        x.other(99);
        rid("a alone", x, 0, 9900, NONE, NONE, NONE, NONE, 0);
        rid("b with all others", x, 1, 8120, 0, 1, 2, 3, 4);
    }

    private void ridOrder() {
        e.sentence(21, "of several as of BEST: that of the fewest THINGS, then the first by PLACE 0, 1, ...");
        rid("nobody: e alone", new ShopWindow(), 4, 0, NONE, NONE, NONE, NONE, 4);
        rid("nobody: a alone", new ShopWindow(), 0, 0, NONE, NONE, NONE, NONE, 0);
        // b----, b---a and ---ab are 2000.
        ShopWindow x = bothWays();
        rid("b alone, the fewest", x, 1, 2000, 1, NONE, NONE, NONE, NONE);
        rid("a: of two with two THINGS the first by PLACE", x, 0, 2000, NONE, NONE, NONE, 0, 1);
        rid("c: b is ahead of it at PLACE 3", x, 2, 2000, NONE, NONE, NONE, 1, 2);
    }

    private void costs() {
        e.sentence(21, "COSTS: BEST of all five less that.");
        ShopWindow x = ten(1, 5, 1);
        x.other(0);
        e.due("rid(1, -2): BEST has it", x.rid(1, -2), 0);
        e.due("rid(0, -2)", x.rid(0, -2), 500);
        e.due("rid(4, -2)", x.rid(4, -2), 500);
        e.due("rid(0, -2) of nobody", new ShopWindow().rid(0, -2), 0);
        // BEST can be the empty WINDOW: one stops who sees nothing.
        x = ten(1, 5, 5);
        Check.law(x, 0, "-h*hs");
        e.due("rid(0, -1)", x.rid(0, -1), 0);
        e.due("rid(0, -2)", x.rid(0, -2), 200);
    }

    private void rid() {
        e.sentence(21, "RID of a THING: WEEK (place = -1), the THING at a PLACE, COSTS (place = -2). UNKNOWN.");
        ShopWindow x = ten(1, 1, 4);
        e.due("rid(4, -2)", x.rid(4, -2), 0);
        e.due("rid(4, -1)", x.rid(4, -1), 1000);
        e.due("rid(4, 0)", x.rid(4, 0), 4);
        e.due("rid(4, 4)", x.rid(4, 4), NONE);
        e.due("rid(0, 4)", x.rid(0, 4), 0);
        for (int place : Edge.beyond(-2, 4)) {
            e.due("rid(4, " + place + ")", x.rid(4, place), UNKNOWN);
            e.due("rid(5, " + place + ")", x.rid(5, place), UNKNOWN);
        }
        for (int thing : Edge.beyond(0, 4)) {
            for (int place = -2; place <= 4; place++) {
                e.due("rid(" + thing + ", " + place + ")", x.rid(thing, place), UNKNOWN);
            }
        }
    }

    /**
     * One goes by with one glance, pays 1 for a and nothing else. At LIGHT 9 a draws 81, b draws 1, so that WEEK is
     * 987, and 975, 964, 952, 941, 928, 916, 909, 900, 888 having BEEN 1 to 9 more.
     */
    private static ShopWindow growsStale(String window, int reach) {
        ShopWindow x = new ShopWindow();
        Check.law(x, 0, "*hh");
        Check.law(x, 1, "*hh");
        x.thing(0, CATCH, 9);
        x.thing(0, COIN, 1);
        x.thing(1, CATCH, 1);
        x.light(0, 9);
        x.light(1, 1);
        x.kind(0, GLANCES, 1);
        x.kind(0, REACH, reach);
        x.kind(0, WANTS, 0);
        x.kind(0, MANY, 1);
        x.other(0);
        Check.stand(x, window);
        return x;
    }

    private void shares() {
        e.sentence(22, "STALE by a share (0 to 100 of a hundred)");
        ShopWindow x = growsStale("ab", 3);
        e.due("week()", x.week(), 987);
        e.due("stale(0): never less than nothing", x.stale(0), NONE);
        e.due("stale(1)", x.stale(1), NONE);
        e.due("stale(99)", x.stale(99), 1);
        e.due("stale(100)", x.stale(100), 1);
        for (int share : Edge.beyond(0, 100)) {
            e.due("stale(" + share + ")", x.stale(share), OUTSIDE);
            e.due("mends(" + share + ")", x.mends(share), OUTSIDE);
        }
        // As much is not less: a alone is seen as ever.
        e.due("stale(100) of a alone", growsStale("a", 3).stale(100), NONE);
        // Nothing is not less than nothing.
        e.due("stale(100) of nobody", new ShopWindow().stale(100), NONE);
        x.kind(0, WANTS, 1);
        x.thing(1, COIN, 1);
        e.due("stale(100) of one who WANTS b: it grows", x.stale(100), NONE);
    }

    private void weeksOneToNine() {
        e.sentence(22, "the first week w (1 to 9) at which WEEK, each KIND having BEEN w more, is less than that share of"
                + " WEEK as it is.");
        ShopWindow x = growsStale("ab", 3);
        // 99, 98, 97, 96, 95, 93, 92, 91 of a hundred of 987: 977.1, 967.2, 957.3, 947.5, 937.6, 917.9, 908.0, 898.1
        int[][] due = {{99, 1}, {98, 2}, {97, 3}, {96, 4}, {95, 5}, {93, 6}, {92, 8}, {91, 9}, {89, NONE}};
        for (int[] pair : due) {
            e.due("stale(" + pair[0] + ")", x.stale(pair[0]), pair[1]);
        }
        // BEEN 9 and up to 9 more: 888, then 875, .., 833 in week 6, 800 in weeks 7 to 9.
        x.kind(0, BEEN, 9);
        e.due("week(), having BEEN 9", x.week(), 888);
        e.due("stale(99), having BEEN 9", x.stale(99), 1);
        e.due("stale(92), having BEEN 9", x.stale(92), 7);
        e.due("stale(90), having BEEN 9", x.stale(90), NONE);
        e.due("BEEN stays", x.told(53), 9);
        // In week 9 alone: 72 by 10 is 7, by 9 it is 8.
        x.kind(0, BEEN, 0);
        x.light(0, 8);
        e.due("week() at LIGHT 8", x.week(), 986);
        e.due("stale(89): 875 is less than 877.5 in week 9", x.stale(89), 9);
    }

    private void eachKind() {
        e.sentence(22, "each KIND having BEEN w more");
        ShopWindow x = growsStale("ab", 3);
        x.kind(0, MANY, 0);
        x.kind(3, GLANCES, 1);
        x.kind(3, WANTS, 0);
        x.kind(3, MANY, 1);
        e.due("KIND 3 alone: stale(99)", x.stale(99), 1);
        e.due("KIND 3 alone: stale(91)", x.stale(91), 9);
        // KIND 0 has BEEN 9 times: 888 and 987 are 1876; 1851 in week 1, 1688 in week 9.
        x.kind(0, MANY, 1);
        x.kind(0, BEEN, 9);
        e.due("both: week()", x.week(), 1876);
        e.due("both: stale(99)", x.stale(99), 1);
        e.due("both: stale(91)", x.stale(91), 8);
        e.due("both: stale(89)", x.stale(89), NONE);
        // Nobody comes of KIND 3: as if there were none of them.
        x.kind(3, MANY, 0);
        e.due("KIND 0 alone: stale(92)", x.stale(92), 7);
    }

    private void stale() {
        e.sentence(22, "STALE: the week; NONE. OUTSIDE.");
        ShopWindow x = growsStale("ab", 3);
        e.due("stale(100)", x.stale(100), 1);
        e.due("stale(0)", x.stale(0), NONE);
        e.due("stale(-1)", x.stale(-1), OUTSIDE);
        e.due("stale(101)", x.stale(101), OUTSIDE);
    }

    private void firstTwoPlaces() {
        e.sentence(23, "MENDS: the first two PLACES (by the lesser one, then the other) that, changed about, make it no"
                + " less in that week.");
        // a draws 45 at PLACE 0, b 1 at PLACE 2. Where there is LIGHT 9 a draws 81.
        ShopWindow x = growsStale("a-b", 5);
        int[] lights = {5, 9, 1, 9, 9};
        for (int place = 0; place < 5; place++) {
            x.light(place, lights[place]);
        }
        e.due("week()", x.week(), 978);
        e.due("stale(99): 956", x.stale(99), 1);
        e.due("PLACES 0 and 1, 3, 4 would do: mends(99)", x.mends(99), 1);
        x.light(1, 5);
        e.due("PLACES 0 and 3, 4 would do: mends(99)", x.mends(99), 3);
        x.light(3, 5);
        e.due("PLACES 0 and 4 would do: mends(99)", x.mends(99), 4);
        x.light(4, 5);
        e.due("none would do: mends(99)", x.mends(99), NONE);
        // b goes where it is not seen: the last two PLACES.
        x = growsStale("a--b-", 4);
        for (int place = 1; place < 5; place++) {
            x.light(place, 1);
        }
        e.due("PLACES 3 and 4: mends(99)", x.mends(99), 34);
        // PLACES 1 and 2 would do, too: 0 is lesser.
        x = new ShopWindow();
        x.kind(0, GLANCES, 4);
        x.kind(0, MANY, 100);
        x.thing(2, LOOKS, LEFT);
        Check.stand(x, "bac");
        e.due("bac: stale(100)", x.stale(100), 5);
        e.due("bac: mends(100)", x.mends(100), 3);
    }

    private void asItIs() {
        e.sentence(23, "is less than that share of WEEK as it is. MENDS: the first two PLACES");
        // BEEN 9: 888, and 875 in week 1; a draws 91 if b, straight beside, LOOKS at it: 888 again.
        ShopWindow x = growsStale("a-b", 3);
        x.kind(0, BEEN, 9);
        x.thing(1, LOOKS, LEFT);
        x.light(2, 1);
        e.due("week()", x.week(), 888);
        e.due("stale(100)", x.stale(100), 1);
        e.due("mends(100)", x.mends(100), 12);
    }

    private void noLess() {
        e.sentence(23, "make it no less in that week");
        // a draws 16, 8 in week 1; at LIGHT 8 it draws 32, 16 in week 1: just as much as at first.
        ShopWindow x = growsStale("a-b", 3);
        x.thing(0, CATCH, 4);
        x.light(0, 4);
        x.light(1, 8);
        x.light(2, 1);
        e.due("stale(100)", x.stale(100), 1);
        e.due("as much: mends(100)", x.mends(100), 1);
        x.light(1, 7);
        e.due("less, b goes out of reach: mends(100)", x.mends(100), 23);
        x.kind(0, REACH, 5);
        x.light(4, 1);
        e.due("less, and nothing goes out of reach: mends(100)", x.mends(100), NONE);
    }

    private void mends() {
        e.sentence(23, "MENDS: 10 times the lesser PLACE, and the other one; 0: it is not STALE; NONE: none does. OUTSIDE.");
        ShopWindow x = growsStale("ab", 3);
        e.due("mends(0)", x.mends(0), 0);
        e.due("mends(89)", x.mends(89), 0);
        e.due("mends(91)", x.mends(91), 13);
        e.due("mends(100)", x.mends(100), 13);
        x.kind(0, REACH, 4);
        e.due("REACH 4: mends(100)", x.mends(100), 14);
        x.kind(0, REACH, 5);
        e.due("REACH 5: mends(100)", x.mends(100), NONE);
        for (int share : Edge.beyond(0, 100)) {
            e.due("mends(" + share + ")", x.mends(share), OUTSIDE);
        }
        e.due("nobody: mends(100)", new ShopWindow().mends(100), 0);
        int[] row = {0, 1, NONE, NONE, NONE};
        for (int place = 0; place < 5; place++) {
            e.due("stands(" + place + ") behind it", x.stands(place), row[place]);
        }
        e.due("BEEN behind it", x.told(53), 0);
    }
}
