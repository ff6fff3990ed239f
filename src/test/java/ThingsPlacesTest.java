/** Promises 1 to 9: a new object, things, places, the PAD, the WINDOW, DRAWS. */
public final class ThingsPlacesTest {
    private static final int[] FAR = {Integer.MIN_VALUE, -6, -1, 5, 6, Integer.MAX_VALUE};

    private static final Check CHECK = new Check();

    private static void due(String call, long got, long want) {
        CHECK.due(call, got, want);
    }

    public static void main(String[] args) {
        newObject();
        thing();
        light();
        sayAndWipe();
        faultAsWindow();
        faultAsLaw();
        window();
        stands();
        drawsByThingLightNumber();
        drawsByLooks();
        drawsByBeen();
        CHECK.end();
    }

    private static void newObject() {
        ShopWindow x = new ShopWindow();
        for (int place = 0; place < 5; place++) {
            due("1: stands(" + place + ")", x.stands(place), ShopWindow.NONE);
            due("1: draws(" + place + ", 0)", x.draws(place, 0), 0);
            due("1: best(31, " + place + ")", x.best(31, place), ShopWindow.NONE);
            due("1: CATCH", x.told(10 + place), 5);
            due("1: COIN", x.told(20 + place), 10);
            due("1: LOOKS", x.told(30 + place), 0);
            due("1: LIGHT", x.told(40 + place), 5);
        }
        int[] habits = {0, 2, 3, 0, 5, 0};
        for (int i = 0; i < 24; i++) {
            due("1: told(" + (50 + i) + ")", x.told(50 + i), habits[i % 6]);
        }
        due("1: signs", x.told(0), 0);
        due("1: THINGS in the WINDOW", x.told(1), 0);
        due("1: OTHER", x.told(2), 2);
        due("1: SHOPS", x.told(3), 0);
        due("1: week()", x.week(), 0);
        for (int kind = 0; kind < 4; kind++) {
            due("1: part(" + kind + ", 0)", x.part(kind, 0), 1000000);
            due("1: does(" + kind + ", 0)", x.does(kind, 0), 0);
        }
        for (int seen = 0; seen <= 4; seen++) {
            for (int wanted = 0; wanted <= 1; wanted++) {
                due("1: STOPS is *sh", x.says(0, seen, wanted), 100 * seen);
                due("1: COMES is h", x.says(1, seen, wanted), 100);
            }
        }
        for (int shop = 0; shop < 11; shop++) {
            due("1: shop(" + shop + ", 0, false)", x.shop(shop, 0, false), 0);
        }
        due("1: restore(0)", x.restore(0), ShopWindow.STATE);
        due("1: restore(1)", x.restore(1), ShopWindow.STATE);
        due("1: lot(0)", x.lot(0), 1);
        due("1: lot(1)", x.lot(1), 1);
    }

    private static void thing() {
        ShopWindow x = new ShopWindow();
        int[] most = {9, 99, 2};
        int[] first = {5, 10, 0};
        for (int thing = 0; thing < 5; thing++) {
            for (int what = 0; what < 3; what++) {
                String call = "2: thing(" + thing + ", " + what + ", ..)";
                due(call, x.thing(thing, what, most[what]), first[what]);
                due(call, x.thing(thing, what, most[what] + 1), ShopWindow.OUTSIDE);
                due(call, x.thing(thing, what, -1), ShopWindow.OUTSIDE);
                due(call, x.thing(thing, what, Integer.MAX_VALUE), ShopWindow.OUTSIDE);
                due(call, x.thing(thing, what, Integer.MIN_VALUE), ShopWindow.OUTSIDE);
                due(call, x.told(10 * what + 10 + thing), most[what]);
                due(call, x.thing(thing, what, 0), most[what]);
                due(call, x.thing(thing, what, thing % (most[what] + 1)), 0);
            }
        }
        for (int what = 0; what < 3; what++) {
            for (int thing = 0; thing < 5; thing++) {
                due("2: each is kept by itself", x.told(10 * what + 10 + thing), thing % (most[what] + 1));
            }
        }
        for (int far : FAR) {
            due("2: thing(" + far + ", 0, 0)", x.thing(far, 0, 0), ShopWindow.UNKNOWN);
            due("2: UNKNOWN is ahead of OUTSIDE", x.thing(far, 3, -1), ShopWindow.UNKNOWN);
        }
        due("2: thing(0, 3, 0)", x.thing(0, 3, 0), ShopWindow.OUTSIDE);
        due("2: thing(0, -1, 0)", x.thing(0, -1, 0), ShopWindow.OUTSIDE);
        due("2: thing(4, MAX, 0)", x.thing(4, Integer.MAX_VALUE, 0), ShopWindow.OUTSIDE);
        due("2: thing(4, MIN, 0)", x.thing(4, Integer.MIN_VALUE, 0), ShopWindow.OUTSIDE);
    }

    private static void light() {
        ShopWindow x = new ShopWindow();
        for (int place = 0; place < 5; place++) {
            due("3: light(" + place + ", 9)", x.light(place, 9), 5);
            due("3: light(" + place + ", 10)", x.light(place, 10), ShopWindow.OUTSIDE);
            due("3: light(" + place + ", -1)", x.light(place, -1), ShopWindow.OUTSIDE);
            due("3: light(" + place + ", 0)", x.light(place, 0), 9);
            due("3: light(" + place + ", " + place + ")", x.light(place, place), 0);
        }
        for (int place = 0; place < 5; place++) {
            due("3: each is kept by itself", x.told(40 + place), place);
        }
        for (int far : FAR) {
            due("3: light(" + far + ", 0)", x.light(far, 0), ShopWindow.UNKNOWN);
            due("3: light(" + far + ", 10)", x.light(far, 10), ShopWindow.UNKNOWN);
        }
    }

    private static void sayAndWipe() {
        ShopWindow x = new ShopWindow();
        due("5: wipe() of none", x.wipe(), 0);
        int[] wrong = {32, 127, 0, -1, 10, 255, Integer.MIN_VALUE, Integer.MAX_VALUE};
        for (int sign : wrong) {
            due("4: say(" + sign + ")", x.say(sign), ShopWindow.OUTSIDE);
        }
        due("4: nothing said", x.told(0), 0);
        due("4: say(33)", x.say(33), 1);
        due("4: say(126)", x.say(126), 2);
        for (int i = 3; i <= 40; i++) {
            due("4: sign " + i, x.say(40 + i), i);
        }
        due("4: a 41st", x.say(97), ShopWindow.FULL);
        due("4: OUTSIDE is ahead of FULL", x.say(32), ShopWindow.OUTSIDE);
        due("4: forty stay", x.told(0), 40);
        due("5: wipe()", x.wipe(), 40);
        due("5: none are left", x.told(0), 0);
        due("5: wipe() again", x.wipe(), 0);
        due("4: say(97)", x.say(97), 1);
    }

    private static void windowFault(String text, int want) {
        ShopWindow x = new ShopWindow();
        Check.say(x, text);
        due("6: fault(0) of " + text, x.fault(0), want);
        due("7: window() of " + text, x.window(),
                want == ShopWindow.NONE ? text.replace("-", "").length() : ShopWindow.NO);
        due("7: signs behind window() of " + text, x.told(0), want == ShopWindow.NONE ? 0 : text.length());
    }

    private static void faultAsWindow() {
        int none = ShopWindow.NONE;
        windowFault("", none);
        windowFault("-", none);
        windowFault("e", none);
        windowFault("abcde", none);
        windowFault("edcba", none);
        windowFault("-----", none);
        windowFault("--c--", none);
        windowFault("------", 5);
        windowFault("abcdea", 5);
        windowFault("abcdeabcd", 5);
        windowFault("aa", 1);
        windowFault("a-a", 2);
        windowFault("abcda", 4);
        windowFault("f", 0);
        windowFault("`", 0);
        windowFault("A", 0);
        windowFault("ab f".replace(' ', '!'), 2);
        windowFault("a--m", 3);
        windowFault("~", 0);
        windowFault("1", 0);
        due("6: fault(2)", new ShopWindow().fault(2), ShopWindow.OUTSIDE);
        due("6: fault(-1)", new ShopWindow().fault(-1), ShopWindow.OUTSIDE);
        due("6: fault(MIN)", new ShopWindow().fault(Integer.MIN_VALUE), ShopWindow.OUTSIDE);
        due("6: fault(MAX)", new ShopWindow().fault(Integer.MAX_VALUE), ShopWindow.OUTSIDE);
    }

    private static void lawFault(String text, int want) {
        ShopWindow x = new ShopWindow();
        Check.say(x, text);
        due("6: fault(1) of " + text, x.fault(1), want);
        due("11: law(0) of " + text, x.law(0), want == ShopWindow.NONE ? text.length() : ShopWindow.NO);
        due("11: signs behind law(0) of " + text, x.told(0), want == ShopWindow.NONE ? 0 : text.length());
    }

    private static void faultAsLaw() {
        int none = ShopWindow.NONE;
        for (char sign = 33; sign <= 126; sign++) {
            boolean alone = sign >= '0' && sign <= '9' || sign == 's' || sign == 'w' || sign == 'h';
            boolean joins = sign == '+' || sign == '-' || sign == '*' || sign == 'm';
            lawFault("" + sign, alone ? none : joins ? 1 : 0);
            lawFault("" + sign + "12", joins ? none : alone ? 1 : 0);
            lawFault("+1" + sign, alone ? none : joins ? 3 : 2);
        }
        lawFault("", 0);
        lawFault("+", 1);
        lawFault("+s", 2);
        lawFault("ss", 1);
        lawFault("+1", 2);
        lawFault("+12h", 3);
        lawFault("m*sh9", none);
        lawFault("m*sh", 4);
        lawFault("*sH", 2);
        // Within 6 others a digit may stand, a sign that joins two can not: to the left, to the right.
        lawFault("++++++1111111", none);
        lawFault("+++++++1", 6);
        lawFault("+++++++11111111", 6);
        lawFault("+1+1+1+1+1+11", none);
        lawFault("+1+1+1+1+1+1+11", 12);
        lawFault("++++++1+", 7);
        lawFault("++++++1111+11", 13);
        lawFault("++++++1111+1111", none);
        lawFault("-*m+-*m1", 6);
        // 15 signs are a text, a 16th can not stand.
        lawFault("+++11+11++11+11", none);
        lawFault("+++11+11++11+111", 15);
        lawFault("+++11+11++11+1+", 15);
        lawFault("+++11+11++11+1+11", 15);
        lawFault("+++11+11++11+1+?", 15);
        lawFault("+++11+11++11+1?+", 14);
    }

    private static void window() {
        ShopWindow x = new ShopWindow();
        Check.say(x, "-c-a");
        due("7: window()", x.window(), 2);
        int[] due = {ShopWindow.NONE, 2, ShopWindow.NONE, 0, ShopWindow.NONE};
        for (int place = 0; place < 5; place++) {
            due("8: stands(" + place + ")", x.stands(place), due[place]);
        }
        due("7: the PAD is empty", x.told(0), 0);
        due("7: THINGS as bits", x.told(1), 5);
        Check.say(x, "bb");
        due("7: a FAULT", x.window(), ShopWindow.NO);
        due("7: the signs stay", x.told(0), 2);
        due("7: the WINDOW stays", x.told(1), 5);
        Check.say(x, "e");
        due("7: window()", x.window(), 1);
        due("7: e alone", x.told(1), 16);
        due("7: behind the end nothing stands", x.stands(1), ShopWindow.NONE);
        due("7: window() of no signs", x.window(), 0);
        due("7: nothing stands", x.told(1), 0);
        due("7: nothing stands there", x.stands(0), ShopWindow.NONE);
    }

    private static void stands() {
        ShopWindow x = new ShopWindow();
        Check.stand(x, "edcba");
        for (int place = 0; place < 5; place++) {
            due("8: stands(" + place + ")", x.stands(place), 4 - place);
        }
        for (int far : FAR) {
            due("8: stands(" + far + ")", x.stands(far), ShopWindow.UNKNOWN);
        }
    }

    private static void draw(ShopWindow x, int... want) {
        for (int place = 0; place < 5; place++) {
            due("9: draws(" + place + ", 0)", x.draws(place, 0), want[place]);
        }
    }

    private static void drawsByThingLightNumber() {
        ShopWindow x = new ShopWindow();
        x.thing(0, 0, 9);
        x.thing(1, 0, 2);
        x.thing(2, 0, 0);
        x.light(1, 9);
        x.light(4, 0);
        Check.stand(x, "a");
        draw(x, 45, 0, 0, 0, 0);
        Check.stand(x, "-a");
        draw(x, 0, 81, 0, 0, 0);
        Check.stand(x, "abc");
        draw(x, 45, 18, 1, 0, 0);
        Check.stand(x, "abcd");
        draw(x, 42, 15, 1, 22, 0);
        Check.stand(x, "abcde");
        draw(x, 39, 12, 1, 19, 1);
        x.thing(2, 0, 1);
        draw(x, 39, 12, 1, 19, 1);
        x.thing(2, 0, 2);
        draw(x, 39, 12, 4, 19, 1);
    }

    private static void drawsByLooks() {
        ShopWindow x = new ShopWindow();
        x.thing(0, 2, 2);
        x.thing(2, 2, 1);
        Check.stand(x, "abc");
        draw(x, 25, 45, 25, 0, 0);
        Check.stand(x, "cba");
        draw(x, 25, 25, 25, 0, 0);
        Check.stand(x, "a-c");
        draw(x, 25, 0, 25, 0, 0);
        Check.stand(x, "ac");
        draw(x, 35, 35, 0, 0, 0);
        Check.stand(x, "ca");
        draw(x, 25, 25, 0, 0, 0);
        Check.stand(x, "---ba");
        draw(x, 0, 0, 0, 25, 25);
        Check.stand(x, "---ab");
        draw(x, 0, 0, 0, 25, 35);
        Check.stand(x, "c--ba");
        draw(x, 25, 0, 0, 25, 25);
        // Ten more and three less come ahead of 'one at least'.
        x.thing(1, 0, 0);
        Check.stand(x, "abcde");
        draw(x, 19, 14, 19, 19, 19);
        x.thing(2, 2, 0);
        draw(x, 19, 4, 19, 19, 19);
        x.thing(0, 2, 0);
        draw(x, 19, 1, 19, 19, 19);
    }

    private static void drawsByBeen() {
        ShopWindow x = new ShopWindow();
        x.thing(1, 0, 0);
        Check.stand(x, "ab");
        for (int been = 0; been <= 18; been++) {
            due("9: draws(0, " + been + ")", x.draws(0, been), 25 / (1 + been));
            due("9: draws(1, " + been + ")", x.draws(1, been), 1);
            due("9: draws(2, " + been + ")", x.draws(2, been), 0);
        }
        x.thing(0, 0, 2);
        due("9: draws(0, 9)", x.draws(0, 9), 1);
        due("9: draws(0, 10): one at least", x.draws(0, 10), 1);
        int[] wrong = {-1, 19, Integer.MIN_VALUE, Integer.MAX_VALUE};
        for (int been : wrong) {
            due("9: draws(0, " + been + ")", x.draws(0, been), ShopWindow.OUTSIDE);
            due("9: draws(4, " + been + ")", x.draws(4, been), ShopWindow.OUTSIDE);
        }
        for (int far : FAR) {
            due("9: draws(" + far + ", 0)", x.draws(far, 0), ShopWindow.UNKNOWN);
            due("9: draws(" + far + ", 19)", x.draws(far, 19), ShopWindow.UNKNOWN);
        }
    }
}
