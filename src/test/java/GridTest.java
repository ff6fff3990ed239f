/**
 * Every call with every choice of edge numbers in all its arguments at once, the least and the greatest int among
 * them: no call throws, and each answers as PlainModel does. A new object is taken ahead of its 512th call.
 */
public final class GridTest {
    private static final int[] EDGES = {Integer.MIN_VALUE, Integer.MIN_VALUE + 1, -1000, -7, -6, -5, -4, -3, -2, -1, 0,
        1, 2, 3, 4, 5, 6, 9, 10, 11, 15, 18, 19, 31, 32, 33, 49, 50, 73, 74, 99, 100, 101, 126, 127, 999, 1000, 65536,
        Integer.MAX_VALUE - 1, Integer.MAX_VALUE};
    private static final int MOST_CALLS = 480;

    private static final Check CHECK = new Check();
    private static ShopWindow x;
    private static PlainModel model;
    private static int calls;

    public static void main(String[] args) {
        anew();
        for (int a : EDGES) {
            one(a);
            for (int b : EDGES) {
                two(a, b);
                for (int c : EDGES) {
                    three(a, b, c);
                    for (int what = -1; what <= 3; what++) {
                        due("boys", x.boys(a, b, c, what), model.boys(a, b, c, what), a, b, c, what);
                    }
                }
            }
            due("boys", x.boys(5, 5, 5, a), model.boys(5, 5, 5, a), 5, 5, 5, a);
        }
        for (int a : EDGES) {
            dear(a);
        }
        CHECK.end();
    }

    /** A WINDOW and a few who go by, told to both. */
    private static void anew() {
        x = new ShopWindow();
        model = new PlainModel();
        calls = 0;
        for (char sign : "ec-a".toCharArray()) {
            due("say", x.say(sign), model.say(sign), sign);
        }
        due("window", x.window(), model.window());
        due("kind", x.kind(1, 5, 100), model.kind(1, 5, 100), 1, 5, 100);
        due("kind", x.kind(1, 4, 4), model.kind(1, 4, 4), 1, 4, 4);
        due("thing", x.thing(4, 0, 9), model.thing(4, 0, 9), 4, 0, 9);
    }

    private static void due(String name, long got, long want, int... numbers) {
        StringBuilder call = new StringBuilder(name);
        for (int number : numbers) {
            call.append(' ').append(number);
        }
        CHECK.due(call.toString(), got, want);
        calls++;
        if (calls >= MOST_CALLS) {
            anew();
        }
    }

    private static void one(int a) {
        due("say", x.say(a), model.say(a), a);
        due("fault", x.fault(a), model.fault(a), a);
        due("law", x.law(a), model.law(a), a);
        due("wipe", x.wipe(), model.wipe());
        due("stands", x.stands(a), model.stands(a), a);
        due("other", x.other(a), model.other(a), a);
        due("lot", x.lot(a), model.lot(a), a);
        due("told", x.told(a), model.told(a), a);
        due("restore", x.restore(a), model.restore(a), a);
        due("image", x.image(a), model.image(a), a);
        due("restore", x.restore(a), model.restore(a), a);
    }

    private static void two(int a, int b) {
        due("light", x.light(a, b), model.light(a, b), a, b);
        due("draws", x.draws(a, b), model.draws(a, b), a, b);
        due("part", x.part(a, b), model.part(a, b), a, b);
        due("seen", x.seen(a, b), model.seen(a, b), a, b);
        due("does", x.does(a, b), model.does(a, b), a, b);
        due("shop", x.shop(a, b, true), model.shop(a, b, true), a, b, 1);
        due("shop", x.shop(b, a, false), model.shop(b, a, false), b, a, 0);
    }

    private static void three(int a, int b, int c) {
        due("thing", x.thing(a, b, c), model.thing(a, b, c), a, b, c);
        due("kind", x.kind(a, b, c), model.kind(a, b, c), a, b, c);
        due("says", x.says(a, b, c), model.says(a, b, c), a, b, c);
    }

    /** The calls that take the model long. */
    private static void dear(int a) {
        anew();
        due("many", x.many(a), model.many(a), a);
        due("exchanges", x.exchanges(a), model.exchanges(a), a);
        due("stale", x.stale(a), model.stale(a), a);
        due("mends", x.mends(a), model.mends(a), a);
        for (int b : EDGES) {
            due("best", x.best(a, b), model.best(a, b), a, b);
            due("rid", x.rid(a, b), model.rid(a, b), a, b);
        }
    }
}
