/** What the Terms say for all calls, and how long an object is used; one method a sentence. */
final class EdgesOfTerms {
    private static final int CALLS = 512;

    private final Edge e;

    EdgesOfTerms(Edge e) {
        this.e = e;
    }

    void all() {
        firstThatFits();
        changeNothing();
        quotientsAreCut();
        calls512();
    }

    private void firstThatFits() {
        e.sentence(4, "Calls that are refused answer, the first of these that fits: UNKNOWN -1 (there is no such THING,"
                + " PLACE, KIND, SHOP), OUTSIDE -2 (another number is not as told), STATE -3 (as told), FULL -4,"
                + " NO -5 (as told).");
        ShopWindow x = new ShopWindow();
        e.due("UNKNOWN ahead of OUTSIDE: thing(5, 3, -1)", x.thing(5, 3, -1), -1);
        e.due("UNKNOWN ahead of OUTSIDE: light(5, 10)", x.light(5, 10), -1);
        e.due("UNKNOWN ahead of OUTSIDE: draws(5, 19)", x.draws(5, 19), -1);
        e.due("UNKNOWN ahead of OUTSIDE: kind(4, 6, -1)", x.kind(4, 6, -1), -1);
        e.due("UNKNOWN ahead of OUTSIDE: part(4, 32)", x.part(4, 32), -1);
        e.due("UNKNOWN ahead of OUTSIDE: does(4, 3)", x.does(4, 3), -1);
        e.due("UNKNOWN ahead of OUTSIDE: best(32, 5)", x.best(32, 5), -1);
        e.due("UNKNOWN ahead of OUTSIDE: shop(11, 1000, true)", x.shop(11, 1000, true), -1);
        e.due("OUTSIDE ahead of STATE: restore(2)", x.restore(2), -2);
        e.due("STATE: restore(1)", x.restore(1), -3);
        for (int i = 0; i < 40; i++) {
            x.say('?');
        }
        e.due("OUTSIDE ahead of FULL: say(32)", x.say(32), -2);
        e.due("FULL: say(33)", x.say(33), -4);
        e.due("OUTSIDE ahead of NO: law(2)", x.law(2), -2);
        e.due("NO: law(1)", x.law(1), -5);
        e.due("NO: window()", x.window(), -5);
    }

    private void quotientsAreCut() {
        ShopWindow x = new ShopWindow();
        x.thing(0, 0, 1);
        Check.stand(x, "a");
        e.sentence(9, "Quotients are cut.");
        e.due("5 by 2", x.draws(0, 1), 2);
        e.due("5 by 3", x.draws(0, 2), 1);
        x.thing(0, 0, 5);
        Check.stand(x, "abc");
        x.kind(0, 1, 1);
        e.sentence(13, "Quotients are cut.");
        e.due("a million by 3", x.part(0, 1), 333333);
        e.sentence(15, "Quotients are cut.");
        e.due("STOP: 333333, 333333 and 333334 by 10", x.does(0, 0), 99999);
        e.due("COME: 33333 by 10, three times", x.does(0, 1), 9999);
        x.kind(0, 5, 1);
        e.sentence(16, "Quotients are cut.");
        e.due("19998 by 1000", x.week(), 19);
        e.sentence(26, "Quotients are cut.");
        e.due("63 by 4", x.boys(7, 9, 4, 1), 15);
        e.due("998001 by 998", x.boys(999, 999, 998, 1), 1000);
    }

    /** RefusalTest looks at every refused call; here one of each refusal. */
    private void changeNothing() {
        e.sentence(4, "They change nothing.");
        ShopWindow x = new ShopWindow();
        for (int i = 0; i < 40; i++) {
            x.say('h');
        }
        e.due("UNKNOWN", x.light(5, 1), -1);
        e.due("OUTSIDE", x.light(4, 10), -2);
        e.due("STATE", x.restore(0), -3);
        e.due("FULL", x.say('h'), -4);
        e.due("NO", x.window(), -5);
        e.due("NO", x.law(0), -5);
        e.holds("all but the signs is new", Snapshot.ofAllButSigns(new ShopWindow()).equals(Snapshot.ofAllButSigns(x)));
        e.due("the signs stay", x.wipe(), 40);
    }

    private void calls512() {
        e.sentence(1, "An object is used for at most 512 calls after it has been made");
        ShopWindow x = new ShopWindow();
        for (int call = 1; call < CALLS; call++) {
            x.other(call % 100);
        }
        e.due("the 512th call", x.other(0), 11);
        // The dearest calls, each with all to be reckoned anew, and the last of them is as the first.
        ShopWindow y = new ShopWindow();
        for (int kind = 0; kind <= 3; kind++) {
            y.kind(kind, 1, 4);
            y.kind(kind, 2, 5);
            y.kind(kind, 5, 999);
            y.kind(kind, 4, kind);
        }
        int first = y.best(31, -1);
        for (int call = 18; call < CALLS; call += 2) {
            y.light(call % 5, 5);
            e.due("best(31, -1), call " + (call + 1), y.best(31, -1), first);
        }
        ShopWindow z = new ShopWindow();
        for (int call = 1; call <= CALLS; call++) {
            e.due("say(97), call " + call, z.say(97), call <= 40 ? call : ShopWindow.FULL);
        }
    }
}
