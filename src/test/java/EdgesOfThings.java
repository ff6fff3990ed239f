/** Promises 1 to 9 and what the Terms say for them, one method a sentence. */
final class EdgesOfThings {
    private static final int NONE = ShopWindow.NONE, UNKNOWN = ShopWindow.UNKNOWN, OUTSIDE = ShopWindow.OUTSIDE;
    private static final int FULL = ShopWindow.FULL, NO = ShopWindow.NO;
    private static final int CATCH = 0, LOOKS = 2, LEFT = 1, RIGHT = 2;

    private final Edge e;

    EdgesOfThings(Edge e) {
        this.e = e;
    }

    void all() {
        newObject();
        emptyAtFirst();
        things();
        trait("CATCH (0 to 9; 5 at first)", 0, 5, 9);
        trait("COIN (0 to 99; 10)", 1, 10, 99);
        trait("LOOKS (0 no face, 1 to the left, 2 to the right; 0)", 2, 0, 2);
        thing();
        places();
        lights();
        light();
        codes();
        fortySigns();
        say();
        wipe();
        fiveSigns();
        lettersOnce();
        behindTheEnd();
        firstFault();
        fault();
        window();
        stands();
        catchTimesLight();
        looksAtIt();
        fourAndFive();
        oneAtLeastAhead();
        byBeen();
        draws();
    }

    private void newObject() {
        e.sentence(1, "The WINDOW is empty, nobody goes by.");
        ShopWindow x = new ShopWindow();
        e.due("told(1)", x.told(1), 0);
        for (int place = 0; place < 5; place++) {
            e.due("stands(" + place + ")", x.stands(place), NONE);
        }
        for (int kind = 0; kind < 4; kind++) {
            e.due("MANY of KIND " + kind, x.told(55 + 6 * kind), 0);
            e.due("part(" + kind + ", 0)", x.part(kind, 0), 1000000);
        }
        e.due("week()", x.week(), 0);
        e.due("best(31, -1)", x.best(31, -1), 0);
        e.due("told(0)", x.told(0), 0);
    }

    private void emptyAtFirst() {
        e.sentence(1, "The WINDOW is empty at first.");
        ShopWindow x = new ShopWindow();
        for (int place = 0; place < 5; place++) {
            e.due("stands(" + place + ")", x.stands(place), NONE);
            e.due("draws(" + place + ", 0)", x.draws(place, 0), 0);
        }
        e.due("told(1)", x.told(1), 0);
    }

    private void things() {
        e.sentence(2, "THINGS 0 to 4 (a to e)");
        ShopWindow x = new ShopWindow();
        for (int thing = 0; thing <= 4; thing++) {
            e.due("thing(" + thing + ", 0, 5)", x.thing(thing, 0, 5), 5);
            e.due("rid(" + thing + ", 4)", x.rid(thing, 4), thing);
            e.due("seen(3, " + thing + ")", x.seen(3, thing), 0);
        }
        for (int thing : Edge.beyond(0, 4)) {
            e.due("thing(" + thing + ", 0, 5)", x.thing(thing, 0, 5), UNKNOWN);
            e.due("rid(" + thing + ", 4)", x.rid(thing, 4), UNKNOWN);
            e.due("seen(3, " + thing + ")", x.seen(3, thing), UNKNOWN);
        }
        Check.stand(x, "abcde");
        for (int place = 0; place <= 4; place++) {
            e.due("stands(" + place + ") of abcde", x.stands(place), place);
        }
        Check.say(x, "`");
        e.due("fault(0) of the sign ahead of a", x.fault(0), 0);
        Check.say(x, "f");
        e.due("fault(0) of the sign behind e", x.fault(0), 0);
    }

    private void trait(String words, int what, int first, int most) {
        e.sentence(2, words);
        ShopWindow x = new ShopWindow();
        for (int thing = 0; thing <= 4; thing++) {
            String call = "thing(" + thing + ", " + what + ", ";
            int told = 10 + 10 * what + thing;
            e.due("told(" + told + ") at first", x.told(told), first);
            e.due(call + "0)", x.thing(thing, what, 0), first);
            e.due(call + most + ")", x.thing(thing, what, most), 0);
            for (int v : Edge.beyond(0, most)) {
                e.due(call + v + ")", x.thing(thing, what, v), OUTSIDE);
                e.due("told(" + told + ") stays", x.told(told), most);
            }
            e.due(call + "1)", x.thing(thing, what, 1), most);
            e.due("told(" + told + ")", x.told(told), 1);
        }
    }

    private void thing() {
        e.sentence(2, "0 CATCH, 1 COIN, 2 LOOKS of a THING: which it was. UNKNOWN; OUTSIDE.");
        ShopWindow x = new ShopWindow();
        int[] first = {5, 10, 0};
        for (int what = 0; what <= 2; what++) {
            e.due("thing(4, " + what + ", 2)", x.thing(4, what, 2), first[what]);
            e.due("thing(4, " + what + ", 2) again", x.thing(4, what, 2), 2);
            e.due("of the others none changed", x.told(13 + 10 * what), first[what]);
        }
        for (int what : Edge.beyond(0, 2)) {
            e.due("thing(4, " + what + ", 0)", x.thing(4, what, 0), OUTSIDE);
        }
        for (int thing : Edge.beyond(0, 4)) {
            e.due("thing(" + thing + ", 0, 10): UNKNOWN is ahead", x.thing(thing, 0, 10), UNKNOWN);
            e.due("thing(" + thing + ", 3, 0): UNKNOWN is ahead", x.thing(thing, 3, 0), UNKNOWN);
        }
        // Each value of LOOKS, as the other two have more: 3 is none of LOOKS, but of CATCH and COIN.
        e.due("thing(0, 2, 3)", x.thing(0, 2, 3), OUTSIDE);
        e.due("thing(0, 1, 10)", x.thing(0, 1, 10), 10);
        e.due("thing(0, 0, 3)", x.thing(0, 0, 3), 5);
    }

    private void places() {
        e.sentence(3, "PLACES 0 to 4, from the left on");
        ShopWindow x = new ShopWindow();
        x.kind(0, 2, 1);
        x.kind(0, 1, 1);
        x.kind(1, 2, 1);
        x.kind(1, 1, 1);
        x.kind(1, 0, 1);
        Check.stand(x, "a---b");
        e.due("stands(0)", x.stands(0), 0);
        e.due("stands(4)", x.stands(4), 1);
        e.due("one from the left sees a", x.seen(0, 0), 1000000);
        e.due("one from the right sees b", x.seen(1, 1), 1000000);
        e.due("light(0, 5)", x.light(0, 5), 5);
        e.due("light(4, 5)", x.light(4, 5), 5);
        for (int place : Edge.beyond(0, 4)) {
            e.due("light(" + place + ", 5)", x.light(place, 5), UNKNOWN);
            e.due("stands(" + place + ")", x.stands(place), UNKNOWN);
            e.due("draws(" + place + ", 0)", x.draws(place, 0), UNKNOWN);
        }
    }

    private void lights() {
        e.sentence(3, "LIGHT (0 to 9; 5)");
        ShopWindow x = new ShopWindow();
        for (int place = 0; place <= 4; place++) {
            String call = "light(" + place + ", ";
            e.due("told(" + (40 + place) + ") at first", x.told(40 + place), 5);
            e.due(call + "0)", x.light(place, 0), 5);
            e.due(call + "9)", x.light(place, 9), 0);
            for (int v : Edge.beyond(0, 9)) {
                e.due(call + v + ")", x.light(place, v), OUTSIDE);
                e.due("told(" + (40 + place) + ") stays", x.told(40 + place), 9);
            }
        }
    }

    private void light() {
        e.sentence(3, "LIGHT of a PLACE: which it was. UNKNOWN; OUTSIDE.");
        ShopWindow x = new ShopWindow();
        e.due("light(3, 8)", x.light(3, 8), 5);
        e.due("light(3, 1)", x.light(3, 1), 8);
        e.due("light(3, 1) again", x.light(3, 1), 1);
        e.due("PLACE 2 is as it was", x.told(42), 5);
        e.due("PLACE 4 is as it was", x.told(44), 5);
        for (int place : Edge.beyond(0, 4)) {
            e.due("light(" + place + ", 10): UNKNOWN is ahead", x.light(place, 10), UNKNOWN);
        }
    }

    private void codes() {
        e.sentence(4, "codes 33 to 126");
        ShopWindow x = new ShopWindow();
        for (int code = 33; code <= 126; code++) {
            if (x.told(0) == 40) {
                x.wipe();
            }
            e.holds("say(" + code + ")", x.say(code) == x.told(0));
        }
        x.wipe();
        // 353 and 65633 are an a, if all but the last bits are lost.
        int[] wrong = {Edge.LEAST, -97, -1, 0, 32, 127, 128, 255, 353, 65633, Edge.MOST};
        for (int code : wrong) {
            e.due("say(" + code + ")", x.say(code), OUTSIDE);
            e.due("signs behind say(" + code + ")", x.told(0), 0);
        }
    }

    private void fortySigns() {
        e.sentence(4, "SIGNS (codes 33 to 126, 40 at most)");
        ShopWindow x = new ShopWindow();
        for (int i = 1; i <= 40; i++) {
            e.due("sign " + i, x.say('a'), i);
        }
        e.due("a 41st", x.say('a'), FULL);
        e.due("told(0)", x.told(0), 40);
        e.due("a 41st again", x.say('a'), FULL);
        e.due("fault(0) of 40 signs", x.fault(0), 1);
        e.due("fault(1) of 40 signs", x.fault(1), 0);
        e.due("wipe()", x.wipe(), 40);
        e.due("behind wipe() there is room", x.say('a'), 1);
    }

    private void say() {
        e.sentence(4, "A sign more: how many. OUTSIDE; FULL.");
        ShopWindow x = new ShopWindow();
        e.due("say('c')", x.say('c'), 1);
        e.due("say(32)", x.say(32), OUTSIDE);
        e.due("say('a')", x.say('a'), 2);
        e.due("window()", x.window(), 2);
        e.due("the first sign stands first", x.stands(0), 2);
        e.due("the second one behind it", x.stands(1), 0);
        for (int i = 0; i < 40; i++) {
            x.say('z');
        }
        e.due("OUTSIDE is ahead of FULL", x.say(127), OUTSIDE);
        e.due("FULL", x.say(126), FULL);
    }

    private void wipe() {
        e.sentence(5, "Signs go: how many there were.");
        ShopWindow x = new ShopWindow();
        e.due("wipe() of none", x.wipe(), 0);
        x.say('f');
        e.due("wipe() of one", x.wipe(), 1);
        e.due("wipe() again", x.wipe(), 0);
        e.due("fault(0)", x.fault(0), NONE);
        e.due("fault(1)", x.fault(1), 0);
        for (int i = 0; i < 41; i++) {
            x.say('f');
        }
        e.due("wipe() of a full PAD", x.wipe(), 40);
        e.due("told(0)", x.told(0), 0);
    }

    private void windowFault(String text, int want) {
        ShopWindow x = new ShopWindow();
        Check.say(x, text);
        e.due("fault(0) of " + text, x.fault(0), want);
        e.due("window() of " + text, x.window(), want == NONE ? text.replace("-", "").length() : NO);
    }

    private void fiveSigns() {
        e.sentence(6, "five signs at most");
        windowFault("----", NONE);
        windowFault("-----", NONE);
        windowFault("------", 5);
        windowFault("abcd", NONE);
        windowFault("abcde", NONE);
        windowFault("abcde-", 5);
        windowFault("abcdea", 5);
        windowFault("-".repeat(40), 5);
    }

    private void lettersOnce() {
        e.sentence(6, "each a THING's letter, once at most, or - (nothing stands there)");
        for (char sign = 33; sign <= 126; sign++) {
            windowFault("" + sign, sign >= 'a' && sign <= 'e' || sign == '-' ? NONE : 0);
        }
        for (char letter = 'a'; letter <= 'e'; letter++) {
            windowFault("" + letter + letter, 1);
            windowFault(letter + "---" + letter, 4);
        }
        windowFault("--a--", NONE);
        ShopWindow x = new ShopWindow();
        Check.stand(x, "-b-d-");
        int[] row = {NONE, 1, NONE, 3, NONE};
        for (int place = 0; place < 5; place++) {
            e.due("stands(" + place + ") of -b-d-", x.stands(place), row[place]);
        }
    }

    private void behindTheEnd() {
        e.sentence(7, "behind its end nothing stands");
        for (int length = 0; length <= 5; length++) {
            ShopWindow x = new ShopWindow();
            Check.stand(x, "abcde");
            Check.say(x, "edcba".substring(0, length));
            e.due("window() of " + length, x.window(), length);
            for (int place = 0; place < 5; place++) {
                e.due("of " + length + ": stands(" + place + ")", x.stands(place), place < length ? 4 - place : NONE);
                e.due("of " + length + ": draws(" + place + ", 18)", x.draws(place, 18), place < length ? 1 : 0);
            }
        }
    }

    private void firstFault() {
        e.sentence(6, "THE FAULT: the place (from 0 on) of the first sign that can not stand there.");
        windowFault("ff", 0);
        windowFault("af", 1);
        windowFault("affaa", 1);
        windowFault("abcdf", 4);
        windowFault("abcda!", 4);
        windowFault("abcde!", 5);
        windowFault("aabb", 1);
        windowFault("f----a--------", 0);
        windowFault("---------a", 5);
    }

    private void fault() {
        e.sentence(6, "THE FAULT as a WINDOW (how = 0; no signs are one), as a LAW (1); NONE. OUTSIDE.");
        ShopWindow x = new ShopWindow();
        e.due("fault(0) of no signs", x.fault(0), NONE);
        e.due("fault(1) of no signs", x.fault(1), 0);
        x.say('5');
        e.due("fault(0) of 5", x.fault(0), 0);
        e.due("fault(1) of 5", x.fault(1), NONE);
        for (int how : Edge.beyond(0, 1)) {
            e.due("fault(" + how + ")", x.fault(how), OUTSIDE);
        }
        e.due("the sign stays", x.told(0), 1);
    }

    private void window() {
        e.sentence(7, "The PAD becomes the WINDOW (it is empty then): how many THINGS. NO: there is a FAULT.");
        ShopWindow x = new ShopWindow();
        e.due("window() of no signs", x.window(), 0);
        Check.say(x, "abcde");
        e.due("window() of abcde", x.window(), 5);
        e.due("signs behind it", x.told(0), 0);
        Check.say(x, "-----");
        e.due("window() of -----", x.window(), 0);
        e.due("told(1)", x.told(1), 0);
        Check.say(x, "e-a");
        e.due("window() of e-a", x.window(), 2);
        Check.say(x, "b-b");
        e.due("window() of b-b", x.window(), NO);
        e.due("the WINDOW stays", x.told(1), 17);
        e.due("PLACE 0 stays", x.stands(0), 4);
        e.due("signs stay", x.told(0), 3);
        e.due("window() again", x.window(), NO);
        x.wipe();
        e.due("window() of no signs, with a WINDOW ahead", x.window(), 0);
        e.due("nothing stands there then", x.told(1), 0);
    }

    private void stands() {
        e.sentence(8, "The THING at a PLACE; NONE. UNKNOWN.");
        ShopWindow x = new ShopWindow();
        Check.stand(x, "e---a");
        int[] row = {4, NONE, NONE, NONE, 0};
        for (int place = 0; place <= 4; place++) {
            e.due("stands(" + place + ")", x.stands(place), row[place]);
        }
        for (int place : Edge.beyond(0, 4)) {
            e.due("stands(" + place + ")", x.stands(place), UNKNOWN);
        }
    }

    private void catchTimesLight() {
        e.sentence(9, "CATCH times LIGHT");
        for (int much = 0; much <= 9; much++) {
            ShopWindow x = new ShopWindow();
            Check.stand(x, "---b");
            x.thing(1, CATCH, much);
            for (int light = 0; light <= 9; light++) {
                x.light(3, light);
                e.due("CATCH " + much + ", LIGHT " + light, x.draws(3, 0), Math.max(1, much * light));
            }
        }
    }

    private void drawn(ShopWindow x, String window, int... want) {
        Check.stand(x, window);
        for (int place = 0; place < 5; place++) {
            e.due(window + ": draws(" + place + ", 0)", x.draws(place, 0), want[place]);
        }
    }

    private void looksAtIt() {
        e.sentence(9, "10 more for each THING beside it that LOOKS at it (from the PLACE straight beside)");
        ShopWindow x = new ShopWindow();
        x.thing(0, LOOKS, RIGHT);
        x.thing(2, LOOKS, LEFT);
        drawn(x, "bd", 25, 25, 0, 0, 0);
        drawn(x, "ab", 25, 35, 0, 0, 0);
        drawn(x, "bc", 35, 25, 0, 0, 0);
        drawn(x, "abc", 25, 45, 25, 0, 0);
        drawn(x, "--abc", 0, 0, 25, 45, 25);
        drawn(x, "ac", 35, 35, 0, 0, 0);
        // They look away from it, or something stands between, or nothing does.
        drawn(x, "ba", 25, 25, 0, 0, 0);
        drawn(x, "cb", 25, 25, 0, 0, 0);
        drawn(x, "a-b-c", 25, 0, 25, 0, 25);
        drawn(x, "adb", 25, 35, 25, 0, 0);
        // Past the first and the last PLACE there is none, the other end neither.
        drawn(x, "b---a", 25, 0, 0, 0, 25);
        drawn(x, "c---b", 25, 0, 0, 0, 25);
        drawn(x, "c---a", 25, 0, 0, 0, 25);
        drawn(x, "ab-cd", 22, 32, 0, 22, 22);
    }

    private void fourAndFive() {
        e.sentence(9, "3 less for each THING above three in the WINDOW");
        ShopWindow x = new ShopWindow();
        drawn(x, "a", 25, 0, 0, 0, 0);
        drawn(x, "a-b", 25, 0, 25, 0, 0);
        drawn(x, "a-bc", 25, 0, 25, 25, 0);
        drawn(x, "a-bcd", 22, 0, 22, 22, 22);
        drawn(x, "aebcd", 19, 19, 19, 19, 19);
    }

    private void oneAtLeastAhead() {
        e.sentence(9, "3 less for each THING above three in the WINDOW, 1 at least");
        ShopWindow x = new ShopWindow();
        x.thing(0, CATCH, 1);
        int[] ofFour = {1, 1, 1, 1, 1, 2, 3};
        int[] ofFive = {1, 1, 1, 1, 1, 1, 1, 1, 2, 3};
        for (int light = 0; light < 10; light++) {
            x.light(0, light);
            Check.stand(x, "a");
            e.due("a alone, LIGHT " + light, x.draws(0, 0), Math.max(1, light));
            Check.stand(x, "abcd");
            e.due("of four, LIGHT " + light, x.draws(0, 0), light < 7 ? ofFour[light] : light - 3);
            Check.stand(x, "abcde");
            e.due("of five, LIGHT " + light, x.draws(0, 0), ofFive[light]);
        }
        // Nothing, 10 more, 6 less: it is one at least behind these alone.
        x.light(0, 0);
        x.thing(1, LOOKS, LEFT);
        e.due("LIGHT 0, looked at, of five", x.draws(0, 0), 4);
        x.thing(1, LOOKS, RIGHT);
        e.due("LIGHT 0, not looked at, of five", x.draws(0, 0), 1);
    }

    private void byBeen() {
        e.sentence(9, "that by (1 and how often one has BEEN; 1 at least)");
        ShopWindow x = new ShopWindow();
        x.thing(0, LOOKS, RIGHT);
        x.thing(2, LOOKS, LEFT);
        x.thing(1, CATCH, 9);
        x.light(1, 9);
        x.light(2, 0);
        Check.stand(x, "abc");
        int[] most = {101, 50, 33, 25, 20, 16, 14, 12, 11, 10, 9, 8, 7, 7, 6, 6, 5, 5, 5};
        int[] plain = {25, 12, 8, 6, 5, 4, 3, 3, 2, 2, 2, 2, 1, 1, 1, 1, 1, 1, 1};
        for (int been = 0; been <= 18; been++) {
            e.due("101 by 1 and " + been, x.draws(1, been), most[been]);
            e.due("25 by 1 and " + been, x.draws(0, been), plain[been]);
            e.due("1 by 1 and " + been, x.draws(2, been), 1);
        }
        x.thing(0, CATCH, 1);
        e.due("5 by 5", x.draws(0, 4), 1);
        e.due("5 by 6: one at least", x.draws(0, 5), 1);
        e.due("5 by 19: one at least", x.draws(0, 18), 1);
    }

    private void draws() {
        e.sentence(9, "DRAWS of a PLACE for one who has BEEN so often (0 to 18); 0: nothing stands there."
                + " UNKNOWN; OUTSIDE.");
        ShopWindow x = new ShopWindow();
        Check.stand(x, "a---e");
        e.due("draws(4, 0)", x.draws(4, 0), 25);
        e.due("draws(4, 18)", x.draws(4, 18), 1);
        e.due("draws(1, 0)", x.draws(1, 0), 0);
        e.due("draws(1, 18)", x.draws(1, 18), 0);
        for (int been : Edge.beyond(0, 18)) {
            e.due("draws(0, " + been + ")", x.draws(0, been), OUTSIDE);
            e.due("draws(1, " + been + ")", x.draws(1, been), OUTSIDE);
        }
        for (int place : Edge.beyond(0, 4)) {
            e.due("draws(" + place + ", 0)", x.draws(place, 0), UNKNOWN);
            e.due("draws(" + place + ", 19): UNKNOWN is ahead", x.draws(place, 19), UNKNOWN);
        }
    }
}
