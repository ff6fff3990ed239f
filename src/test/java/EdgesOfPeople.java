/** Promises 10 to 17 and what the Terms say for them, one method a sentence. */
final class EdgesOfPeople {
    private static final int NONE = ShopWindow.NONE, UNKNOWN = ShopWindow.UNKNOWN, OUTSIDE = ShopWindow.OUTSIDE;
    private static final int NO = ShopWindow.NO;
    private static final int SIDE = 0, GLANCES = 1, REACH = 2, BEEN = 3, WANTS = 4, MANY = 5;
    private static final int A = 1, B = 2, C = 4, D = 8, E = 16, ALL = 1000000;

    private final Edge e;

    EdgesOfPeople(Edge e) {
        this.e = e;
    }

    void all() {
        kinds();
        habit("0 SIDE (0 from the left, 1 from the right; 0)", SIDE, 0, 1, 0);
        habit("1 GLANCES (1 to 4; 2)", GLANCES, 1, 4, 2);
        habit("2 REACH (1 to 5; 3)", REACH, 1, 5, 3);
        habit("3 BEEN (0 to 9; 0)", BEEN, 0, 9, 0);
        habit("4 WANTS a THING (0 to 4, 5 none; 5)", WANTS, 0, 5, 5);
        habit("5 MANY of them (0 to 999; 0)", MANY, 0, 999, 0);
        wantsNone();
        kind();
        reachFromTheLeft();
        reachFromTheRight();
        pastTheLastPlace();
        notSeenByDraws();
        onNothing();
        noneAtFirst();
        whatIsLeft();
        oneMillionth();
        part();
        seenOfAThing();
        seen();
        laws();
        signsOfLaws();
        joined();
        withinSix();
        moreMustCome();
        thousandths();
        notCutOnTheWay();
        fifteenSigns();
        lawsAtFirst();
        law();
        says();
        stop();
        come();
        pay();
        does();
        otherBounds();
        other();
        weekTogether();
        week();
    }

    private void kinds() {
        e.sentence(10, "KINDS of people 0 to 3");
        ShopWindow x = new ShopWindow();
        for (int kind = 0; kind <= 3; kind++) {
            e.due("kind(" + kind + ", 5, 1)", x.kind(kind, MANY, 1), 0);
            e.due("part(" + kind + ", 0)", x.part(kind, 0), ALL);
            e.due("seen(" + kind + ", 0)", x.seen(kind, 0), 0);
            e.due("does(" + kind + ", 0)", x.does(kind, 0), 0);
        }
        for (int kind : Edge.beyond(0, 3)) {
            e.due("kind(" + kind + ", 5, 1)", x.kind(kind, MANY, 1), UNKNOWN);
            e.due("part(" + kind + ", 0)", x.part(kind, 0), UNKNOWN);
            e.due("seen(" + kind + ", 0)", x.seen(kind, 0), UNKNOWN);
            e.due("does(" + kind + ", 0)", x.does(kind, 0), UNKNOWN);
        }
    }

    private void habit(String words, int what, int least, int most, int first) {
        e.sentence(10, words);
        ShopWindow x = new ShopWindow();
        for (int kind = 0; kind <= 3; kind++) {
            String call = "kind(" + kind + ", " + what + ", ";
            int told = 50 + 6 * kind + what;
            e.due("told(" + told + ") at first", x.told(told), first);
            e.due(call + least + ")", x.kind(kind, what, least), first);
            e.due(call + most + ")", x.kind(kind, what, most), least);
            for (int v : Edge.beyond(least, most)) {
                e.due(call + v + ")", x.kind(kind, what, v), OUTSIDE);
                e.due("told(" + told + ") stays", x.told(told), most);
            }
        }
    }

    private void wantsNone() {
        e.sentence(10, "4 WANTS a THING (0 to 4, 5 none; 5)");
        ShopWindow x = new ShopWindow();
        x.kind(0, GLANCES, 1);
        x.kind(0, REACH, 1);
        Check.law(x, 0, "*wh");
        for (int wish = 0; wish <= 5; wish++) {
            x.kind(0, WANTS, wish);
            for (int thing = 0; thing <= 4; thing++) {
                Check.stand(x, "" + (char) ('a' + thing));
                e.due("WANTS " + wish + ", sees " + thing, x.does(0, 0), wish == thing ? 100000 : 0);
            }
        }
    }

    private void kind() {
        e.sentence(10, "0 to 5 of a KIND: which it was. UNKNOWN; OUTSIDE.");
        ShopWindow x = new ShopWindow();
        int[] first = {0, 2, 3, 0, 5, 0};
        for (int what = 0; what <= 5; what++) {
            e.due("kind(3, " + what + ", 1)", x.kind(3, what, 1), first[what]);
            e.due("kind(3, " + what + ", 1) again", x.kind(3, what, 1), 1);
            e.due("KIND 2 is as it was", x.told(62 + what), first[what]);
        }
        for (int what : Edge.beyond(0, 5)) {
            e.due("kind(3, " + what + ", 1)", x.kind(3, what, 1), OUTSIDE);
        }
        for (int kind : Edge.beyond(0, 3)) {
            e.due("kind(" + kind + ", 6, 1): UNKNOWN is ahead", x.kind(kind, 6, 1), UNKNOWN);
            e.due("kind(" + kind + ", 0, 2): UNKNOWN is ahead", x.kind(kind, 0, 2), UNKNOWN);
        }
    }

    /** All PARTS of a KIND: pairs of a SET and its PART, the others none. */
    private void parts(String of, ShopWindow x, int kind, int... pairs) {
        int[] want = new int[32];
        for (int i = 0; i < pairs.length; i += 2) {
            want[pairs[i]] = pairs[i + 1];
        }
        for (int set = 0; set < 32; set++) {
            e.due(of + ": part(" + kind + ", " + set + ")", x.part(kind, set), want[set]);
        }
    }

    private static ShopWindow goesBy(String window, int side, int glances, int reach) {
        ShopWindow x = new ShopWindow();
        Check.stand(x, window);
        x.kind(0, SIDE, side);
        x.kind(0, GLANCES, glances);
        x.kind(0, REACH, reach);
        return x;
    }

    private void reachFromTheLeft() {
        e.sentence(13, "Glance g (0, 1, ...) of one from the left reaches PLACES g to g and REACH less 1");
        parts("glance 0, REACH 1", goesBy("abcde", 0, 1, 1), 0, A, ALL);
        parts("glances 0 to 3, REACH 1", goesBy("abcde", 0, 4, 1), 0, A | B | C | D, ALL);
        parts("glance 0, REACH 2", goesBy("-a-b-", 0, 1, 2), 0, A, ALL);
        parts("glance 0, REACH 4", goesBy("---ab", 0, 1, 4), 0, A, ALL);
        parts("glance 0, REACH 5", goesBy("---ab", 0, 1, 5), 0, A, ALL / 2, B, ALL / 2);
        parts("glance 1, REACH 3, PLACE 4 is past it", goesBy("----a", 0, 2, 3), 0, 0, ALL);
        parts("glance 2, REACH 3", goesBy("----a", 0, 3, 3), 0, A, ALL);
        parts("glance 3, REACH 1, PLACE 4 is past it", goesBy("----a", 0, 4, 1), 0, 0, ALL);
        parts("glance 3, REACH 2", goesBy("----a", 0, 4, 2), 0, A, ALL);
    }

    private void reachFromTheRight() {
        e.sentence(13, "from the right they are counted from the right");
        parts("glance 0, REACH 1", goesBy("abcde", 1, 1, 1), 0, E, ALL);
        parts("glances 0 to 3, REACH 1", goesBy("abcde", 1, 4, 1), 0, B | C | D | E, ALL);
        parts("glance 0, REACH 4", goesBy("ab---", 1, 1, 4), 0, B, ALL);
        parts("glance 0, REACH 5", goesBy("ab---", 1, 1, 5), 0, A, ALL / 2, B, ALL / 2);
        parts("glance 1, REACH 3, PLACE 0 is past it", goesBy("a----", 1, 2, 3), 0, 0, ALL);
        parts("glance 2, REACH 3", goesBy("a----", 1, 3, 3), 0, A, ALL);
        parts("glance 3, REACH 1, PLACE 0 is past it", goesBy("a----", 1, 4, 1), 0, 0, ALL);
        parts("glance 3, REACH 2", goesBy("a----", 1, 4, 2), 0, A, ALL);
    }

    private void pastTheLastPlace() {
        e.sentence(13, "Glance g (0, 1, ...) of one from the left reaches PLACES g to g and REACH less 1;"
                + " from the right they are counted from the right.");
        // Past the last PLACE is not the first one: who has seen b sees no a at glance 1.
        parts("left, glance 1, REACH 5", goesBy("ab---", 0, 2, 5), 0, A | B, ALL / 2, B, ALL / 2);
        parts("right, glance 1, REACH 5", goesBy("---ab", 1, 2, 5), 0, A | B, ALL / 2, A, ALL / 2);
        parts("left, glances 1 to 3, REACH 5", goesBy("a----", 0, 4, 5), 0, A, ALL);
        parts("right, glances 1 to 3, REACH 5", goesBy("----a", 1, 4, 5), 0, A, ALL);
        // Who has not seen a at glance 0 never does; glance 2 shows c to those who have seen a and b.
        parts("left, 4 glances, REACH 5", goesBy("ab-c-", 0, 4, 5), 0, A | B | C, 166666, A | C, 166667, B | C, 666667);
    }

    private void notSeenByDraws() {
        e.sentence(13, "It falls on one of the THINGS that it reaches and that one has not seen, by what they DRAW");
        ShopWindow x = goesBy("ab", 0, 1, 2);
        x.thing(0, 0, 9);
        x.light(0, 9);
        x.light(1, 0);
        parts("81 to 1", x, 0, A, 987804, B, 12196);
        x.kind(0, BEEN, 9);
        parts("8 to 1, having BEEN 9 times", x, 0, A, 888888, B, 111112);
        // The one that was seen is left out of the sum as well: b and c are halves of what saw a.
        parts("seen ones do not count", goesBy("-abc", 0, 2, 4), 0,
                A | B, 166666 + 166666, A | C, 166667 + 166667, B | C, 166667 + 166667);
    }

    private void onNothing() {
        e.sentence(13, "on nothing, if there is none");
        parts("empty", goesBy("", 0, 4, 5), 0, 0, ALL);
        parts("nothing in reach", goesBy("--a", 0, 1, 2), 0, 0, ALL);
        parts("all is seen", goesBy("a", 0, 4, 5), 0, A, ALL);
        parts("nothing at glance 0, b at glance 1", goesBy("-b", 0, 2, 1), 0, B, ALL);
        parts("a, then nothing, then c", goesBy("a-c", 0, 3, 1), 0, A | C, ALL);
        parts("from the right, all is seen", goesBy("----e", 1, 4, 5), 0, E, ALL);
    }

    private void noneAtFirst() {
        e.sentence(13, "SETS of THINGS (bits 0 to 31) that were seen have PARTS in millionths: all for none at first");
        ShopWindow x = new ShopWindow();
        for (int kind = 0; kind <= 3; kind++) {
            parts("at first", x, kind, 0, ALL);
        }
        e.due("part(0, -1)", x.part(0, -1), OUTSIDE);
        e.due("part(0, 32)", x.part(0, 32), OUTSIDE);
        // Four are seen at most: all five by nobody.
        x = goesBy("abcde", 0, 4, 5);
        e.due("part(0, 31)", x.part(0, 31), 0);
        int together = 0;
        for (int set = 0; set < 32; set++) {
            together += x.part(0, set);
        }
        e.due("all PARTS together", together, ALL);
    }

    private void whatIsLeft() {
        e.sentence(13, "to each THING that it may fall on, PLACE by PLACE from the left, that PART times its DRAWS by all"
                + " of theirs; to the last of them what is left.");
        parts("three alike", goesBy("abc", 0, 1, 3), 0, A, 333333, B, 333333, C, 333334);
        parts("three alike, by PLACE, not by THING", goesBy("cba", 0, 1, 3), 0, C, 333333, B, 333333, A, 333334);
        parts("from the right the last is at the right, too", goesBy("--abc", 1, 1, 3), 0, A, 333333, B, 333333, C, 333334);
        parts("one alone takes all", goesBy("-a", 0, 1, 3), 0, A, ALL);
        ShopWindow x = goesBy("abc", 0, 1, 3);
        x.thing(0, 0, 9);
        x.thing(1, 0, 1);
        x.thing(2, 0, 4);
        // 45, 5 and 20 of 70
        parts("the last takes what is left", x, 0, A, 642857, B, 71428, C, 285715);
        Check.stand(x, "cab");
        parts("the last takes what is left", x, 0, C, 285714, A, 642857, B, 71429);
        // Who has seen c: what is left goes to b, the last one that was not seen.
        x.kind(0, GLANCES, 2);
        x.kind(0, REACH, 4);
        Check.stand(x, "-abc");
        parts("the last of those not seen", x, 0,
                A | B, 128571 + 49450, A | C, 514286 + 257143, B | C, 21978 + 28572);
    }

    private void oneMillionth() {
        e.sentence(13, "that PART times its DRAWS by all of theirs; to the last of them what is left.");
        ShopWindow x = goesBy("bdaec", 0, 3, 4);
        x.thing(0, 0, 1);
        x.thing(1, 0, 1);
        x.thing(3, 0, 1);
        x.thing(4, 0, 9);
        x.light(3, 9);
        // b, d, a draw 1 each, e 75, c 19: b 12820 of a million, of these b and d 133, of these b, d and a 1.
        e.due("behind glance 2: a, b, d", x.part(0, A | B | D), 1);
        e.due("behind glance 2: a, b, c, d", x.part(0, A | B | C | D), 0);
        x.kind(0, GLANCES, 4);
        // 75 of 94 of one is cut to nothing for e: c is the last of them.
        e.due("behind glance 3: a, b, d", x.part(0, A | B | D), 0);
        e.due("behind glance 3: a, b, d, e", x.part(0, A | B | D | E), 0);
        e.due("behind glance 3: a, b, c, d", x.part(0, A | B | C | D), 1);
        Check.law(x, 0, "*hh");
        Check.law(x, 1, "*hh");
        e.due("all stop", x.does(0, 0), ALL);
        e.due("all come in", x.does(0, 1), ALL);
    }

    private void part() {
        e.sentence(13, "PART of a SET behind all glances of a KIND. UNKNOWN; OUTSIDE.");
        ShopWindow x = goesBy("abcde", 0, 4, 1);
        e.due("part(0, 0)", x.part(0, 0), 0);
        e.due("part(0, 15)", x.part(0, 15), ALL);
        e.due("part(0, 31)", x.part(0, 31), 0);
        e.due("part(3, 31)", x.part(3, 31), 0);
        for (int set : Edge.beyond(0, 31)) {
            e.due("part(3, " + set + ")", x.part(3, set), OUTSIDE);
        }
        for (int kind : Edge.beyond(0, 3)) {
            e.due("part(" + kind + ", 31)", x.part(kind, 31), UNKNOWN);
            e.due("part(" + kind + ", 32): UNKNOWN is ahead", x.part(kind, 32), UNKNOWN);
        }
    }

    private void seenOfAThing() {
        e.sentence(14, "SEEN of a THING: PARTS of SETS with it.");
        ShopWindow x = goesBy("abc", 0, 2, 3);
        // a b 166666, a c 166667, b c 666667
        int[] want = {333333, 833333, 833334, 0, 0};
        for (int thing = 0; thing <= 4; thing++) {
            e.due("seen(0, " + thing + ")", x.seen(0, thing), want[thing]);
        }
        x = goesBy("abcde", 0, 4, 1);
        for (int thing = 0; thing <= 4; thing++) {
            e.due("4 glances, REACH 1: seen(0, " + thing + ")", x.seen(0, thing), thing < 4 ? ALL : 0);
        }
        x = goesBy("", 0, 4, 5);
        e.due("nothing stands there: seen(0, 0)", x.seen(0, 0), 0);
        // 81 to 1, having BEEN 9 times 8 to 1
        x = goesBy("ab", 0, 1, 2);
        x.thing(0, 0, 9);
        x.light(0, 9);
        x.light(1, 0);
        e.due("BEEN 0: seen(0, 0)", x.seen(0, 0), 987804);
        x.kind(0, BEEN, 9);
        e.due("BEEN 9: seen(0, 0)", x.seen(0, 0), 888888);
        e.due("BEEN 9: seen(0, 1)", x.seen(0, 1), 111112);
        e.due("BEEN 9: does(0, 0)", x.does(0, 0), 88888 + 11111);
        e.due("BEEN 9: does(0, 1)", x.does(0, 1), 8888 + 1111);
    }

    private void seen() {
        e.sentence(14, "SEEN. UNKNOWN.");
        ShopWindow x = goesBy("e", 0, 1, 1);
        e.due("seen(0, 4)", x.seen(0, 4), ALL);
        e.due("seen(3, 4)", x.seen(3, 4), ALL);
        for (int kind : Edge.beyond(0, 3)) {
            e.due("seen(" + kind + ", 4)", x.seen(kind, 4), UNKNOWN);
        }
        for (int thing : Edge.beyond(0, 4)) {
            e.due("seen(0, " + thing + ")", x.seen(0, thing), UNKNOWN);
            e.due("seen(4, " + thing + ")", x.seen(4, thing), UNKNOWN);
        }
    }

    private void laws() {
        e.sentence(11, "LAWS are texts on the PAD, two: 0 STOPS, 1 COMES");
        ShopWindow x = goesBy("a", 0, 1, 1);
        Check.law(x, 0, "*5h");
        e.due("STOP behind law(0)", x.does(0, 0), 500000);
        e.due("COME behind law(0)", x.does(0, 1), 50000);
        Check.law(x, 1, "*2h");
        e.due("STOP behind law(1)", x.does(0, 0), 500000);
        e.due("COME behind law(1)", x.does(0, 1), 100000);
        for (int which : Edge.beyond(0, 1)) {
            Check.say(x, "7");
            e.due("law(" + which + ")", x.law(which), OUTSIDE);
            e.due("says(" + which + ", 0, 0)", x.says(which, 0, 0), OUTSIDE);
        }
    }

    private void lawFault(String text, int want) {
        ShopWindow x = new ShopWindow();
        Check.say(x, text);
        e.due("fault(1) of " + text, x.fault(1), want);
        e.due("law(1) of " + text, x.law(1), want == NONE ? text.length() : NO);
        e.due("signs behind it", x.told(0), want == NONE ? 0 : text.length());
    }

    private void signsOfLaws() {
        e.sentence(11, "a digit; s (how many THINGS are seen), w (1, if the one that one WANTS is, else 0), h (100)");
        for (char sign = 33; sign <= 126; sign++) {
            boolean alone = sign >= '0' && sign <= '9' || "swh".indexOf(sign) >= 0;
            boolean joins = "+-*m".indexOf(sign) >= 0;
            lawFault("" + sign, alone ? NONE : joins ? 1 : 0);
            lawFault("+1" + sign, alone ? NONE : joins ? 3 : 2);
        }
        for (char digit = '0'; digit <= '9'; digit++) {
            comesTo("" + digit, 4, 1, digit - '0');
        }
        for (int howMany = 0; howMany <= 4; howMany++) {
            comesTo("s", howMany, 0, howMany);
            comesTo("s", howMany, 1, howMany);
            comesTo("w", howMany, 0, 0);
            comesTo("w", howMany, 1, 1);
            comesTo("h", howMany, 1, 100);
        }
    }

    private void comesTo(String text, int howMany, int wanted, int want) {
        ShopWindow x = new ShopWindow();
        for (int which = 0; which <= 1; which++) {
            Check.law(x, which, text);
            e.due(text + " as LAW " + which + " for " + howMany + ", " + wanted, x.says(which, howMany, wanted), want);
        }
    }

    private void joined() {
        e.sentence(11, "+ - * or m and two texts (the lesser one of two)");
        comesTo("+h9", 0, 0, 109);
        comesTo("-h9", 0, 0, 91);
        comesTo("*h9", 0, 0, 900);
        comesTo("mh9", 0, 0, 9);
        comesTo("m9h", 0, 0, 9);
        comesTo("m99", 0, 0, 9);
        comesTo("--951", 0, 0, 3);
        comesTo("-9-51", 0, 0, 5);
        lawFault("+12", NONE);
        lawFault("+1", 2);
        lawFault("+123", 3);
        lawFault("12", 1);
    }

    private void withinSix() {
        e.sentence(11, "No text lies within more than 6 others (so a + - * or m within 6 can not stand)");
        lawFault("+++++1" + "11111", NONE);
        lawFault("++++++1" + "111111", NONE);
        lawFault("+++++++1", 6);
        lawFault("+1+1+1+1+1+11", NONE);
        lawFault("+1+1+1+1+1+1+11", 12);
        lawFault("++++++1+", 7);
        for (char sign : "+-*m".toCharArray()) {
            lawFault("++++++" + sign, 6);
            lawFault("+1+1+1+1+1+1" + sign, 12);
            lawFault("+++++1" + sign + "11", 9);
        }
        // Behind the deepest texts there is room again: within 3 others a sign that joins may stand.
        lawFault("++++++1111+1111", NONE);
        lawFault("++++++11+11+111", 15);
        lawFault("++++++1+1", 7);
        comesTo("++++++1111111", 0, 0, 7);
        comesTo("+1+1+1+1+1+11", 0, 0, 7);
    }

    private void moreMustCome() {
        e.sentence(6, "THE FAULT likewise (the number of signs, if more must come)");
        lawFault("", 0);
        lawFault("+", 1);
        lawFault("+1", 2);
        lawFault("++11", 4);
        lawFault("++++++", 6);
        lawFault("+++11+11++11+1+", 15);
        // The first sign that can not stand is ahead of what must come.
        lawFault("+?", 1);
        lawFault("1+", 1);
        lawFault("+1?1", 2);
        lawFault("+11?", 3);
    }

    private void thousandths() {
        e.sentence(12, "What it comes to is taken as thousandths, 0 at least, 1000 at most");
        comesTo("-01", 0, 0, 0);
        comesTo("-11", 0, 0, 0);
        comesTo("-10", 0, 0, 1);
        comesTo("-*h*259", 0, 0, 991);
        comesTo("-*h*251", 0, 0, 999);
        comesTo("*h*25", 0, 0, 1000);
        comesTo("+*h*251", 0, 0, 1000);
        comesTo("*-01*h*h*hh", 0, 0, 0);
        ShopWindow x = goesBy("a", 0, 1, 1);
        Check.law(x, 0, "*hh");
        e.due("STOP at 1000 at most", x.does(0, 0), ALL);
        Check.law(x, 0, "-0h");
        e.due("STOP at 0 at least", x.does(0, 0), 0);
    }

    private void notCutOnTheWay() {
        e.sentence(12, "on the way no number is cut off");
        comesTo("-*hh*h-h1", 0, 0, 100);
        comesTo("+h-0h", 0, 0, 0);
        comesTo("-0-0h", 0, 0, 100);
        comesTo("*-01-09", 0, 0, 9);
        comesTo("-+*hhh*hh", 0, 0, 100);
        // A million millions and more: none is lost in an int.
        comesTo("m5*h*h*h*h*hh", 0, 0, 5);
        comesTo("m*h*h*h*h*hh5", 0, 0, 5);
        comesTo("*h*h*h*h*hh", 0, 0, 1000);
        comesTo("***hh*hh**hh*hh", 0, 0, 1000);
        comesTo("*-0h*h*h*h*hh", 0, 0, 0);
    }

    private void fifteenSigns() {
        e.sentence(11, "all texts are of at most 15 signs: a 16th can not stand");
        lawFault("+++11+11++11+11", NONE);
        lawFault("+++11+11++11+11" + "1", 15);
        lawFault("+++11+11++11+1+" + "1", 15);
        lawFault("+++11+11++11+1+" + "11", 15);
        lawFault("+++11+11++11+1?" + "1", 14);
        lawFault("+++11+11++11+1+" + "?", 15);
        lawFault("+++11+11++11+1+" + "1".repeat(25), 15);
        // Fourteen signs are never a whole text: each + has two, so the number is odd.
        lawFault("+++11+11++11+1", 14);
        lawFault("+++11+11+1+11", NONE);
        comesTo("+++11+11++11+11", 0, 0, 8);
    }

    private void lawsAtFirst() {
        e.sentence(12, "STOPS is *sh at first, COMES h.");
        ShopWindow x = new ShopWindow();
        for (int howMany = 0; howMany <= 4; howMany++) {
            for (int wanted = 0; wanted <= 1; wanted++) {
                e.due("says(0, " + howMany + ", " + wanted + ")", x.says(0, howMany, wanted), 100 * howMany);
                e.due("says(1, " + howMany + ", " + wanted + ")", x.says(1, howMany, wanted), 100);
            }
        }
        e.due("the PAD is empty", x.told(0), 0);
    }

    private void law() {
        e.sentence(11, "The PAD becomes a LAW (0 STOPS, 1 COMES; it is empty then): how many signs."
                + " OUTSIDE; NO: there is a FAULT.");
        ShopWindow x = new ShopWindow();
        e.due("law(0) of no signs", x.law(0), NO);
        Check.say(x, "7");
        e.due("law(0) of one sign", x.law(0), 1);
        e.due("signs behind it", x.told(0), 0);
        e.due("law(0) again", x.law(0), NO);
        e.due("the LAW stays", x.says(0, 4, 1), 7);
        Check.say(x, "+++11+11++11+11");
        e.due("law(1) of 15 signs", x.law(1), 15);
        Check.say(x, "5?");
        e.due("law(1) with a FAULT", x.law(1), NO);
        e.due("signs stay", x.told(0), 2);
        e.due("COMES stays", x.says(1, 0, 0), 8);
        for (int which : Edge.beyond(0, 1)) {
            e.due("law(" + which + "): OUTSIDE is ahead of NO", x.law(which), OUTSIDE);
            e.due("signs stay", x.told(0), 2);
        }
    }

    private void says() {
        e.sentence(12, "What a LAW comes to for so many THINGS seen (0 to 4), what one WANTS seen or not (0, 1)."
                + " OUTSIDE.");
        ShopWindow x = new ShopWindow();
        Check.law(x, 0, "+sw");
        for (int i = 0; i < 10; i++) {
            e.due("says(0, " + i / 2 + ", " + i % 2 + ")", x.says(0, i / 2, i % 2), i / 2 + i % 2);
        }
        for (int bad : Edge.beyond(0, 4)) {
            e.due("says(0, " + bad + ", 0)", x.says(0, bad, 0), OUTSIDE);
            e.due("says(1, " + bad + ", 1)", x.says(1, bad, 1), OUTSIDE);
        }
        for (int bad : Edge.beyond(0, 1)) {
            e.due("says(0, 4, " + bad + ")", x.says(0, 4, bad), OUTSIDE);
            e.due("says(" + bad + ", 4, 1)", x.says(bad, 4, 1), OUTSIDE);
        }
    }

    private void stop() {
        e.sentence(15, "STOP of a KIND: of all SETS PART times STOPS by 1000, together");
        // a b 166666, a c 166667, b c 666667: each is cut by itself.
        ShopWindow x = goesBy("abc", 0, 2, 3);
        e.due("by 5", x.does(0, 0), 33333 + 33333 + 133333);
        Check.law(x, 0, "*9h");
        e.due("9 of 10", x.does(0, 0), 149999 + 150000 + 600000);
        Check.law(x, 0, "1");
        e.due("1 of 1000", x.does(0, 0), 166 + 166 + 666);
        Check.law(x, 0, "*hh");
        e.due("all", x.does(0, 0), ALL);
        Check.law(x, 0, "0");
        e.due("none", x.does(0, 0), 0);
        x = goesBy("", 0, 1, 1);
        Check.law(x, 0, "*5h");
        e.due("who sees nothing stops, too", x.does(0, 0), 500000);
        x = goesBy("abcde", 0, 4, 1);
        e.due("four are seen", x.does(0, 0), 400000);
    }

    private void come() {
        e.sentence(15, "COME: that of each times COMES by 1000, together");
        ShopWindow x = goesBy("abc", 0, 2, 3);
        e.due("by 5, by 10", x.does(0, 1), 3333 + 3333 + 13333);
        Check.law(x, 0, "1");
        // 166, 166 and 666 stop: of these a tenth, each cut.
        e.due("1 of 1000, by 10", x.does(0, 1), 16 + 16 + 66);
        Check.law(x, 1, "*hh");
        e.due("1 of 1000, all", x.does(0, 1), 166 + 166 + 666);
        Check.law(x, 1, "0");
        e.due("none", x.does(0, 1), 0);
        Check.law(x, 0, "*hh");
        Check.law(x, 1, "*hh");
        e.due("all", x.does(0, 1), ALL);
    }

    private void pay() {
        e.sentence(15, "PAY of a KIND: COME of each SET times COIN: of what one WANTS, if that is seen; else OTHER");
        ShopWindow x = goesBy("abc", 0, 2, 3);
        x.thing(1, 1, 50);
        e.due("WANTS none", x.does(0, 2), 19999 * 2);
        x.kind(0, WANTS, 1);
        e.due("WANTS b", x.does(0, 2), 3333 * 50 + 3333 * 2 + 13333 * 50);
        x.thing(1, 1, 0);
        e.due("COIN 0", x.does(0, 2), 3333 * 2);
        x.other(0);
        e.due("COIN 0, OTHER 0", x.does(0, 2), 0);
        x.kind(0, WANTS, 4);
        x.thing(4, 1, 99);
        x.other(99);
        e.due("WANTS e, that does not stand there", x.does(0, 2), 19999 * 99);
        Check.law(x, 0, "*hh");
        Check.law(x, 1, "*hh");
        e.due("the most", x.does(0, 2), 99 * ALL);
        Check.stand(x, "e");
        x.other(0);
        e.due("the most, by COIN", x.does(0, 2), 99 * ALL);
    }

    private void does() {
        e.sentence(15, "STOP (what = 0), COME (1), PAY (2) of a KIND. UNKNOWN; OUTSIDE.");
        ShopWindow x = goesBy("a", 0, 1, 1);
        int[] want = {100000, 10000, 20000};
        for (int what = 0; what <= 2; what++) {
            e.due("does(0, " + what + ")", x.does(0, what), want[what]);
            e.due("does(3, " + what + ")", x.does(3, what), want[what]);
        }
        for (int what : Edge.beyond(0, 2)) {
            e.due("does(3, " + what + ")", x.does(3, what), OUTSIDE);
        }
        for (int kind : Edge.beyond(0, 3)) {
            e.due("does(" + kind + ", 2)", x.does(kind, 2), UNKNOWN);
            e.due("does(" + kind + ", 3): UNKNOWN is ahead", x.does(kind, 3), UNKNOWN);
        }
    }

    private void otherBounds() {
        e.sentence(17, "OTHER (0 to 99; 2 at first)");
        ShopWindow x = new ShopWindow();
        e.due("told(2)", x.told(2), 2);
        e.due("other(0)", x.other(0), 2);
        e.due("other(99)", x.other(99), 0);
        for (int v : Edge.beyond(0, 99)) {
            e.due("other(" + v + ")", x.other(v), OUTSIDE);
            e.due("told(2) stays", x.told(2), 99);
        }
    }

    private void other() {
        e.sentence(17, "OTHER: which it was. OUTSIDE.");
        ShopWindow x = goesBy("a", 0, 1, 1);
        e.due("other(7)", x.other(7), 2);
        e.due("other(7) again", x.other(7), 7);
        e.due("PAY", x.does(0, 2), 70000);
        e.due("other(100)", x.other(100), OUTSIDE);
        e.due("PAY stays", x.does(0, 2), 70000);
    }

    private void weekTogether() {
        e.sentence(16, "WEEK: PAY of all KINDS times MANY, together, by 1000.");
        ShopWindow x = goesBy("abc", 0, 2, 3);
        x.kind(0, WANTS, 1);
        x.kind(1, WANTS, 1);
        // PAY is 173326 of each.
        x.kind(0, MANY, 7);
        e.due("7 of KIND 0", x.week(), 1213);
        x.kind(0, MANY, 0);
        x.kind(1, MANY, 3);
        e.due("3 of KIND 1", x.week(), 519);
        x.kind(0, MANY, 7);
        e.due("both: cut when they are together", x.week(), 1733);
        for (int kind = 0; kind <= 3; kind++) {
            x.kind(kind, MANY, 999);
            x.kind(kind, WANTS, 0);
        }
        x.thing(0, 1, 99);
        Check.law(x, 0, "*hh");
        Check.law(x, 1, "*hh");
        Check.stand(x, "a");
        e.due("the greatest there is", x.week(), 395604000);
        for (int kind = 0; kind <= 3; kind++) {
            x.kind(kind, MANY, kind == 3 ? 1 : 0);
        }
        e.due("one of KIND 3 alone", x.week(), 99000);
        // 999 thousandths are nothing, 1000 are one.
        x.thing(0, 1, 1);
        Check.law(x, 0, "1");
        Check.law(x, 1, "-*h*251");
        e.due("PAY", x.does(3, 2), 999);
        e.due("999 thousandths", x.week(), 0);
        Check.law(x, 1, "*hh");
        e.due("1000 thousandths", x.week(), 1);
    }

    private void week() {
        e.sentence(16, "WEEK.");
        ShopWindow x = new ShopWindow();
        e.due("week() of nobody", x.week(), 0);
        x.kind(0, MANY, 999);
        e.due("week() of an empty WINDOW", x.week(), 0);
        Check.stand(x, "a");
        e.due("week()", x.week(), 19980);
        Check.law(x, 0, "0");
        e.due("nobody stops", x.week(), 0);
    }
}
