import java.util.ArrayList;
import java.util.List;

/**
 * Terms, "They change nothing.": every refused call, with the numbers straight beside those that are taken and the
 * least and the greatest int, leaves the state, the signs and both IMAGES as they were.
 */
public final class RefusalTest {
    private interface Call {
        long on(ShopWindow x);
    }

    private record Refused(String name, long due, Call call) {
    }

    private static final int UNKNOWN = ShopWindow.UNKNOWN, OUTSIDE = ShopWindow.OUTSIDE, STATE = ShopWindow.STATE;
    private static final int FULL = ShopWindow.FULL, NO = ShopWindow.NO;
    /** At fault both as a WINDOW and as a LAW; a LAW, at fault as a WINDOW; a WINDOW, at fault as a LAW. */
    private static final String NEITHER = "+aa", LAW = "-+s7w", WINDOW = "d-b";

    private static final Check CHECK = new Check();
    private static final List<Refused> CALLS = new ArrayList<>();

    public static void main(String[] args) {
        things();
        people();
        windows();
        shops();
        String state = Snapshot.of(stirred(NEITHER));
        String[] images = {Snapshot.of(restored(0)), Snapshot.of(restored(1))};
        CHECK.holds("the two IMAGES and the state are three", !images[0].equals(images[1])
                && !images[0].equals(state) && !images[1].equals(state));
        for (Refused refused : CALLS) {
            leavesState(refused, state);
            leavesImages(refused, images);
            leavesSigns(refused);
        }
        noWindow();
        noLaw();
        fullPad();
        noImage();
        asking();
        CHECK.end();
    }

    private static void refused(int promise, String name, long due, Call call) {
        CALLS.add(new Refused("promise " + promise + ", \"They change nothing.\": " + name, due, call));
    }

    /** Two IMAGES are kept, then all is changed anew; the signs are told at last. */
    private static ShopWindow stirred(String signs) {
        ShopWindow x = new ShopWindow();
        x.image(1);
        x.thing(3, 1, 60);
        x.kind(1, 5, 40);
        x.kind(1, 4, 3);
        x.shop(9, 9, true);
        Check.stand(x, "-d");
        x.image(0);
        x.thing(0, 0, 9);
        x.thing(1, 1, 40);
        x.thing(2, 2, 2);
        x.light(3, 2);
        x.kind(0, 5, 500);
        x.kind(0, 4, 1);
        x.kind(2, 5, 70);
        x.kind(2, 0, 1);
        x.kind(2, 1, 4);
        x.other(12);
        Check.law(x, 0, "+*sh*wh");
        Check.law(x, 1, "*3h");
        Check.stand(x, "cba-e");
        x.shop(2, 30, true);
        x.shop(5, 20, true);
        x.shop(7, 40, false);
        Check.say(x, signs);
        return x;
    }

    private static ShopWindow restored(int image) {
        ShopWindow x = stirred(NEITHER);
        x.restore(image);
        return x;
    }

    // Each look is at an object of its own, for a snapshot takes more than half of an object's 512 calls.

    private static void leavesState(Refused refused, String state) {
        ShopWindow x = stirred(NEITHER);
        CHECK.due(refused.name, refused.call.on(x), refused.due);
        CHECK.holds(refused.name + " leaves the state", state.equals(Snapshot.of(x)));
    }

    private static void leavesImages(Refused refused, String[] images) {
        for (int n = 0; n < 2; n++) {
            ShopWindow x = stirred(NEITHER);
            refused.call.on(x);
            CHECK.due(refused.name + ", restore(" + n + ")", x.restore(n), 1);
            CHECK.holds(refused.name + " leaves IMAGE " + n, images[n].equals(Snapshot.of(x)));
        }
    }

    private static void leavesSigns(Refused refused) {
        ShopWindow x = stirred(LAW);
        CHECK.due(refused.name + " with a LAW on the PAD", refused.call.on(x), refused.due);
        theLaw(refused.name, x);
        ShopWindow y = stirred(WINDOW);
        CHECK.due(refused.name + " with a WINDOW on the PAD", refused.call.on(y), refused.due);
        theWindow(refused.name, y);
    }

    /** The PAD becomes STOPS: s and 7 less w. */
    private static void theLaw(String name, ShopWindow x) {
        CHECK.due(name + ", law(0)", x.law(0), LAW.length());
        for (int i = 0; i < 10; i++) {
            CHECK.due(name + ", says(0, ..)", x.says(0, i / 2, i % 2), i / 2 + 7 - i % 2);
            CHECK.due(name + ", says(1, ..)", x.says(1, i / 2, i % 2), 300);
        }
    }

    private static void theWindow(String name, ShopWindow x) {
        CHECK.due(name + ", window()", x.window(), 2);
        int[] row = {3, ShopWindow.NONE, 1, ShopWindow.NONE, ShopWindow.NONE};
        for (int place = 0; place < 5; place++) {
            CHECK.due(name + ", stands(" + place + ")", x.stands(place), row[place]);
        }
    }

    private static void things() {
        for (int bad : Edge.beyond(0, 4)) {
            refused(2, "thing(" + bad + ", 0, 1)", UNKNOWN, x -> x.thing(bad, 0, 1));
            refused(3, "light(" + bad + ", 1)", UNKNOWN, x -> x.light(bad, 1));
            refused(8, "stands(" + bad + ")", UNKNOWN, x -> x.stands(bad));
            refused(9, "draws(" + bad + ", 0)", UNKNOWN, x -> x.draws(bad, 0));
        }
        for (int bad : Edge.beyond(0, 2)) {
            refused(2, "thing(0, " + bad + ", 1)", OUTSIDE, x -> x.thing(0, bad, 1));
            refused(2, "thing(0, 2, " + bad + ")", OUTSIDE, x -> x.thing(0, 2, bad));
        }
        for (int bad : Edge.beyond(0, 9)) {
            refused(2, "thing(4, 0, " + bad + ")", OUTSIDE, x -> x.thing(4, 0, bad));
            refused(3, "light(3, " + bad + ")", OUTSIDE, x -> x.light(3, bad));
        }
        for (int bad : Edge.beyond(0, 99)) {
            refused(2, "thing(1, 1, " + bad + ")", OUTSIDE, x -> x.thing(1, 1, bad));
        }
        for (int bad : Edge.beyond(33, 126)) {
            refused(4, "say(" + bad + ")", OUTSIDE, x -> x.say(bad));
        }
        for (int bad : Edge.beyond(0, 1)) {
            refused(6, "fault(" + bad + ")", OUTSIDE, x -> x.fault(bad));
        }
        for (int bad : Edge.beyond(0, 18)) {
            refused(9, "draws(0, " + bad + ")", OUTSIDE, x -> x.draws(0, bad));
        }
    }

    private static void people() {
        for (int bad : Edge.beyond(0, 3)) {
            refused(10, "kind(" + bad + ", 0, 1)", UNKNOWN, x -> x.kind(bad, 0, 1));
            refused(13, "part(" + bad + ", 0)", UNKNOWN, x -> x.part(bad, 0));
            refused(14, "seen(" + bad + ", 0)", UNKNOWN, x -> x.seen(bad, 0));
            refused(15, "does(" + bad + ", 0)", UNKNOWN, x -> x.does(bad, 0));
        }
        for (int bad : Edge.beyond(0, 5)) {
            refused(10, "kind(3, " + bad + ", 1)", OUTSIDE, x -> x.kind(3, bad, 1));
        }
        int[] least = {0, 1, 1, 0, 0, 0};
        int[] most = {1, 4, 5, 9, 5, 999};
        for (int what = 0; what < 6; what++) {
            int w = what;
            for (int bad : Edge.beyond(least[w], most[w])) {
                refused(10, "kind(2, " + w + ", " + bad + ")", OUTSIDE, x -> x.kind(2, w, bad));
            }
        }
        for (int bad : Edge.beyond(0, 1)) {
            refused(11, "law(" + bad + ")", OUTSIDE, x -> x.law(bad));
            refused(12, "says(" + bad + ", 0, 0)", OUTSIDE, x -> x.says(bad, 0, 0));
            refused(12, "says(0, 0, " + bad + ")", OUTSIDE, x -> x.says(0, 0, bad));
        }
        for (int bad : Edge.beyond(0, 4)) {
            refused(12, "says(1, " + bad + ", 0)", OUTSIDE, x -> x.says(1, bad, 0));
            refused(14, "seen(0, " + bad + ")", UNKNOWN, x -> x.seen(0, bad));
        }
        for (int bad : Edge.beyond(0, 31)) {
            refused(13, "part(0, " + bad + ")", OUTSIDE, x -> x.part(0, bad));
        }
        for (int bad : Edge.beyond(0, 2)) {
            refused(15, "does(0, " + bad + ")", OUTSIDE, x -> x.does(0, bad));
        }
        for (int bad : Edge.beyond(0, 99)) {
            refused(17, "other(" + bad + ")", OUTSIDE, x -> x.other(bad));
        }
    }

    private static void windows() {
        for (int bad : Edge.beyond(-1, 4)) {
            refused(18, "best(31, " + bad + ")", UNKNOWN, x -> x.best(31, bad));
        }
        for (int bad : Edge.beyond(0, 31)) {
            refused(18, "best(" + bad + ", 0)", OUTSIDE, x -> x.best(bad, 0));
        }
        for (int bad : Edge.beyond(0, 5)) {
            refused(19, "many(" + bad + ")", OUTSIDE, x -> x.many(bad));
        }
        for (int bad : Edge.beyond(0, 2)) {
            refused(20, "exchanges(" + bad + ")", OUTSIDE, x -> x.exchanges(bad));
        }
        for (int bad : Edge.beyond(0, 4)) {
            refused(21, "rid(" + bad + ", 0)", UNKNOWN, x -> x.rid(bad, 0));
        }
        for (int bad : Edge.beyond(-2, 4)) {
            refused(21, "rid(0, " + bad + ")", UNKNOWN, x -> x.rid(0, bad));
        }
        for (int bad : Edge.beyond(0, 100)) {
            refused(22, "stale(" + bad + ")", OUTSIDE, x -> x.stale(bad));
            refused(23, "mends(" + bad + ")", OUTSIDE, x -> x.mends(bad));
        }
    }

    private static void shops() {
        for (int bad : Edge.beyond(0, 10)) {
            refused(24, "shop(" + bad + ", 1, true)", UNKNOWN, x -> x.shop(bad, 1, true));
        }
        for (int bad : Edge.beyond(0, 999)) {
            refused(24, "shop(2, " + bad + ", false)", OUTSIDE, x -> x.shop(2, bad, false));
            refused(24, "shop(7, " + bad + ", true)", OUTSIDE, x -> x.shop(7, bad, true));
            refused(26, "boys(" + bad + ", 5, 0, 0)", OUTSIDE, x -> x.boys(bad, 5, 0, 0));
            refused(26, "boys(5, " + bad + ", 0, 0)", OUTSIDE, x -> x.boys(5, bad, 0, 0));
        }
        for (int bad : Edge.beyond(0, 5)) {
            refused(26, "boys(5, 9, " + bad + ", 0)", OUTSIDE, x -> x.boys(5, 9, bad, 0));
        }
        for (int bad : Edge.beyond(0, 2)) {
            refused(26, "boys(5, 5, 5, " + bad + ")", OUTSIDE, x -> x.boys(5, 5, 5, bad));
        }
        for (int bad : Edge.beyond(0, 1)) {
            refused(25, "lot(" + bad + ")", ShopWindow.LOST - 2, x -> x.lot(bad));
            refused(27, "image(" + bad + ")", OUTSIDE, x -> x.image(bad));
            refused(28, "restore(" + bad + ")", OUTSIDE, x -> x.restore(bad));
        }
        for (int bad : new int[] {Edge.LEAST, -1, 4, 9, 15, 19, 25, 29, 35, 39, 45, 49, 74, Edge.MOST}) {
            refused(29, "told(" + bad + ")", OUTSIDE, x -> x.told(bad));
        }
    }

    private static void noWindow() {
        String name = "promise 7, \"They change nothing.\": window() with a FAULT";
        ShopWindow x = stirred(NEITHER);
        CHECK.due(name, x.window(), NO);
        CHECK.holds(name + " leaves the state", Snapshot.of(stirred(NEITHER)).equals(Snapshot.of(x)));
        ShopWindow y = stirred(LAW);
        CHECK.due(name, y.window(), NO);
        theLaw(name, y);
    }

    private static void noLaw() {
        for (int which = 0; which < 2; which++) {
            String name = "promise 11, \"They change nothing.\": law(" + which + ") with a FAULT";
            ShopWindow x = stirred(NEITHER);
            CHECK.due(name, x.law(which), NO);
            CHECK.holds(name + " leaves the state", Snapshot.of(stirred(NEITHER)).equals(Snapshot.of(x)));
            ShopWindow y = stirred(WINDOW);
            CHECK.due(name, y.law(which), NO);
            theWindow(name, y);
        }
    }

    private static ShopWindow full() {
        return stirred(LAW + "1".repeat(40 - LAW.length()));
    }

    private static void fullPad() {
        String name = "promise 4, \"They change nothing.\": say(97) on a full PAD";
        ShopWindow x = full();
        CHECK.due(name, x.say(97), FULL);
        CHECK.due(name + ", told(0)", x.told(0), 40);
        CHECK.holds(name + " leaves the state", Snapshot.of(full()).equals(Snapshot.of(x)));
    }

    private static ShopWindow oneImage(int kept) {
        ShopWindow x = new ShopWindow();
        x.other(33);
        x.image(kept);
        x.other(44);
        Check.say(x, NEITHER);
        return x;
    }

    private static void noImage() {
        for (int kept = 0; kept < 2; kept++) {
            String name = "promise 28, \"They change nothing.\": restore(" + (1 - kept) + ") of none kept";
            ShopWindow x = oneImage(kept);
            CHECK.due(name, x.restore(1 - kept), STATE);
            CHECK.holds(name + " leaves the state", Snapshot.of(oneImage(kept)).equals(Snapshot.of(x)));
            CHECK.due(name + " again", x.restore(1 - kept), STATE);
            CHECK.due(name + ", the other one", x.restore(kept), 1);
            CHECK.due(name + ", OTHER", x.told(2), 33);
            ShopWindow y = new ShopWindow();
            CHECK.due(name + ", nor the other", y.restore(1 - kept), STATE);
            CHECK.holds(name + " leaves it new", Snapshot.of(new ShopWindow()).equals(Snapshot.of(y)));
        }
    }

    private static void asking() {
        ShopWindow x = stirred(NEITHER);
        for (int i = 0; i < 3; i++) {
            x.draws(i, 4);
            x.part(i, 3);
            x.does(2, i);
            x.week();
            x.best(15, i);
            x.many(i);
            x.exchanges(i);
            x.rid(i, -2);
            x.stale(95);
            x.mends(95);
            x.lot(0);
            x.boys(5, 5, 5, i);
            x.told(i);
        }
        CHECK.holds("asking changes nothing", Snapshot.of(stirred(NEITHER)).equals(Snapshot.of(x)));
    }
}
