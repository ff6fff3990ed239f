import java.util.ArrayList;
import java.util.List;

/** Terms: refused calls change nothing, and neither do those that only ask. */
public final class RefusalTest {
    private interface Call {
        long on(ShopWindow x);
    }

    private static final Check CHECK = new Check();
    private static final List<String> NAMES = new ArrayList<>();
    private static final List<Call> CALLS = new ArrayList<>();
    private static final List<Long> DUE = new ArrayList<>();

    private static void refused(String name, long due, Call call) {
        NAMES.add(name);
        DUE.add(due);
        CALLS.add(call);
    }

    public static void main(String[] args) {
        things();
        people();
        windows();
        shops();
        // Two objects with the same calls, for a snapshot takes more than half of an object's 512.
        String ahead = Snapshot.of(stirred());
        for (int i = 0; i < CALLS.size(); i++) {
            ShopWindow x = stirred();
            CHECK.due(NAMES.get(i), CALLS.get(i).on(x), DUE.get(i));
            CHECK.holds(NAMES.get(i) + " changes nothing", ahead.equals(Snapshot.of(x)));
        }
        fullPad();
        asking();
        CHECK.end();
    }

    private static ShopWindow stirred() {
        ShopWindow x = new ShopWindow();
        x.thing(0, 0, 9);
        x.thing(1, 1, 40);
        x.thing(2, 2, 2);
        x.light(3, 2);
        x.kind(0, 5, 500);
        x.kind(0, 4, 1);
        x.kind(2, 5, 70);
        x.kind(2, 0, 1);
        x.kind(2, 1, 4);
        x.other(12);
        Check.law(x, 0, "+*sh*wh");
        Check.law(x, 1, "*3h");
        Check.stand(x, "cba-e");
        x.shop(2, 30, true);
        x.shop(5, 20, true);
        x.shop(7, 40, false);
        Check.say(x, "+aa");
        return x;
    }

    private static void things() {
        refused("thing(5, 0, 1)", -1, x -> x.thing(5, 0, 1));
        refused("thing(-1, 0, 1)", -1, x -> x.thing(-1, 0, 1));
        refused("thing(0, 3, 1)", -2, x -> x.thing(0, 3, 1));
        refused("thing(0, 0, 10)", -2, x -> x.thing(0, 0, 10));
        refused("thing(0, 1, 100)", -2, x -> x.thing(0, 1, 100));
        refused("thing(0, 2, 3)", -2, x -> x.thing(0, 2, 3));
        refused("light(5, 1)", -1, x -> x.light(5, 1));
        refused("light(0, 10)", -2, x -> x.light(0, 10));
        refused("say(32)", -2, x -> x.say(32));
        refused("say(127)", -2, x -> x.say(127));
        refused("fault(2)", -2, x -> x.fault(2));
        refused("window()", -5, x -> x.window());
        refused("stands(5)", -1, x -> x.stands(5));
        refused("draws(5, 0)", -1, x -> x.draws(5, 0));
        refused("draws(0, 19)", -2, x -> x.draws(0, 19));
    }

    private static void people() {
        refused("kind(4, 0, 1)", -1, x -> x.kind(4, 0, 1));
        refused("kind(0, 6, 1)", -2, x -> x.kind(0, 6, 1));
        refused("kind(0, 0, 2)", -2, x -> x.kind(0, 0, 2));
        refused("kind(0, 1, 0)", -2, x -> x.kind(0, 1, 0));
        refused("kind(0, 2, 6)", -2, x -> x.kind(0, 2, 6));
        refused("kind(0, 3, 10)", -2, x -> x.kind(0, 3, 10));
        refused("kind(0, 4, 6)", -2, x -> x.kind(0, 4, 6));
        refused("kind(0, 5, 1000)", -2, x -> x.kind(0, 5, 1000));
        refused("law(2)", -2, x -> x.law(2));
        refused("law(0)", -5, x -> x.law(0));
        refused("law(1)", -5, x -> x.law(1));
        refused("says(0, 5, 0)", -2, x -> x.says(0, 5, 0));
        refused("part(4, 0)", -1, x -> x.part(4, 0));
        refused("part(0, 32)", -2, x -> x.part(0, 32));
        refused("seen(4, 0)", -1, x -> x.seen(4, 0));
        refused("seen(0, 5)", -1, x -> x.seen(0, 5));
        refused("does(4, 0)", -1, x -> x.does(4, 0));
        refused("does(0, 3)", -2, x -> x.does(0, 3));
        refused("other(100)", -2, x -> x.other(100));
        refused("other(-1)", -2, x -> x.other(-1));
    }

    private static void windows() {
        refused("best(31, 5)", -1, x -> x.best(31, 5));
        refused("best(32, 0)", -2, x -> x.best(32, 0));
        refused("many(6)", -2, x -> x.many(6));
        refused("exchanges(3)", -2, x -> x.exchanges(3));
        refused("rid(5, 0)", -1, x -> x.rid(5, 0));
        refused("rid(0, 5)", -1, x -> x.rid(0, 5));
        refused("stale(101)", -2, x -> x.stale(101));
        refused("mends(101)", -2, x -> x.mends(101));
    }

    private static void shops() {
        refused("shop(11, 1, true)", -1, x -> x.shop(11, 1, true));
        refused("shop(2, 1000, false)", -2, x -> x.shop(2, 1000, false));
        refused("shop(7, -1, true)", -2, x -> x.shop(7, -1, true));
        refused("lot(2)", ShopWindow.LOST - 2, x -> x.lot(2));
        refused("boys(1, 1, 2, 0)", -2, x -> x.boys(1, 1, 2, 0));
        refused("image(2)", -2, x -> x.image(2));
        refused("restore(2)", -2, x -> x.restore(2));
        refused("restore(0)", -3, x -> x.restore(0));
        refused("restore(1)", -3, x -> x.restore(1));
        refused("told(4)", -2, x -> x.told(4));
    }

    private static ShopWindow full() {
        ShopWindow x = stirred();
        for (int i = x.told(0); i < 40; i++) {
            x.say('h');
        }
        return x;
    }

    private static void fullPad() {
        ShopWindow x = full();
        CHECK.due("say(97) on a full PAD", x.say(97), ShopWindow.FULL);
        CHECK.holds("FULL changes nothing", Snapshot.of(full()).equals(Snapshot.of(x)));
    }

    private static void asking() {
        ShopWindow x = stirred();
        for (int i = 0; i < 3; i++) {
            x.draws(i, 4);
            x.part(i, 3);
            x.does(2, i);
            x.week();
            x.best(15, i);
            x.many(i);
            x.exchanges(i);
            x.rid(i, -2);
            x.stale(95);
            x.mends(95);
            x.lot(0);
            x.boys(5, 5, 5, i);
            x.told(i);
        }
        CHECK.holds("asking changes nothing", Snapshot.of(stirred()).equals(Snapshot.of(x)));
    }
}
