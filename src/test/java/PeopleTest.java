/** Promises 10 to 17: KINDS, LAWS, PARTS, SEEN, STOP, COME, PAY, WEEK, OTHER. */
public final class PeopleTest {
    private static final int[] FAR = {Integer.MIN_VALUE, -6, -1, 4, 5, Integer.MAX_VALUE};
    private static final int SIDE = 0, GLANCES = 1, REACH = 2, BEEN = 3, WANTS = 4, MANY = 5;
    private static final int A = 1, B = 2, C = 4, D = 8, E = 16;

    private static final Check CHECK = new Check();

    private static void due(String call, long got, long want) {
        CHECK.due(call, got, want);
    }

    public static void main(String[] args) {
        kind();
        law();
        lawsComeTo();
        refusedLaws();
        partsFromTheLeft();
        partsFromTheRight();
        partsByDraws();
        partsByBeen();
        partsOfAGlanceOnNothing();
        partsRefused();
        seen();
        does();
        doesByWants();
        week();
        other();
        CHECK.end();
    }

    private static void kind() {
        ShopWindow x = new ShopWindow();
        int[] least = {0, 1, 1, 0, 0, 0};
        int[] most = {1, 4, 5, 9, 5, 999};
        int[] first = {0, 2, 3, 0, 5, 0};
        for (int kind = 0; kind < 4; kind++) {
            for (int what = 0; what < 6; what++) {
                String call = "10: kind(" + kind + ", " + what + ", ..)";
                due(call, x.kind(kind, what, most[what]), first[what]);
                due(call, x.kind(kind, what, most[what] + 1), ShopWindow.OUTSIDE);
                due(call, x.kind(kind, what, least[what] - 1), ShopWindow.OUTSIDE);
                due(call, x.kind(kind, what, Integer.MAX_VALUE), ShopWindow.OUTSIDE);
                due(call, x.kind(kind, what, Integer.MIN_VALUE), ShopWindow.OUTSIDE);
                due(call, x.kind(kind, what, least[what]), most[what]);
                due(call, x.kind(kind, what, Math.min(most[what], least[what] + kind)), least[what]);
            }
        }
        for (int i = 0; i < 24; i++) {
            due("10: each is kept by itself", x.told(50 + i), Math.min(most[i % 6], least[i % 6] + i / 6));
        }
        for (int far : FAR) {
            due("10: kind(" + far + ", 0, 0)", x.kind(far, 0, 0), ShopWindow.UNKNOWN);
            due("10: UNKNOWN is ahead of OUTSIDE", x.kind(far, 6, -1), ShopWindow.UNKNOWN);
        }
        due("10: kind(0, 6, 0)", x.kind(0, 6, 0), ShopWindow.OUTSIDE);
        due("10: kind(0, -1, 0)", x.kind(0, -1, 0), ShopWindow.OUTSIDE);
        due("10: kind(0, MIN, 0)", x.kind(0, Integer.MIN_VALUE, 0), ShopWindow.OUTSIDE);
    }

    private static void law() {
        ShopWindow x = new ShopWindow();
        Check.say(x, "+*s5w");
        due("11: law(1)", x.law(1), 5);
        due("11: the PAD is empty", x.told(0), 0);
        due("12: COMES is new", x.says(1, 3, 1), 16);
        due("12: STOPS is as it was", x.says(0, 3, 1), 300);
        Check.say(x, "7");
        due("11: law(0)", x.law(0), 1);
        due("12: STOPS is new", x.says(0, 3, 1), 7);
        due("12: COMES is as it was", x.says(1, 3, 1), 16);
        due("11: no signs are no LAW", x.law(0), ShopWindow.NO);
    }

    private static void comesTo(String text, int seen, int wanted, int want) {
        ShopWindow x = new ShopWindow();
        for (int which = 0; which < 2; which++) {
            Check.law(x, which, text);
            due("12: " + text + " for " + seen + ", " + wanted, x.says(which, seen, wanted), want);
            due("12: the other LAW stays", x.says(1 - which, seen, wanted),
                    which == 1 ? want : 100);
        }
    }

    private static void lawsComeTo() {
        for (int digit = 0; digit <= 9; digit++) {
            comesTo("" + digit, 2, 1, digit);
        }
        for (int seen = 0; seen <= 4; seen++) {
            comesTo("s", seen, 0, seen);
            comesTo("w", seen, 0, 0);
            comesTo("w", seen, 1, 1);
            comesTo("h", seen, 1, 100);
        }
        comesTo("+h9", 0, 0, 109);
        comesTo("-h9", 0, 0, 91);
        comesTo("-9h", 0, 0, 0);
        comesTo("*99", 0, 0, 81);
        comesTo("m95", 0, 0, 5);
        comesTo("m59", 0, 0, 5);
        comesTo("-s1", 0, 0, 0);
        comesTo("-s1", 4, 0, 3);
        comesTo("--931", 0, 0, 5);
        comesTo("-9-31", 0, 0, 7);
        comesTo("*+12-h1", 0, 0, 297);
        comesTo("+*sh*wh", 4, 1, 500);
        comesTo("m*sh*2h", 3, 0, 200);
        // The edges, and that nothing is cut on the way.
        comesTo("*h+91", 0, 0, 1000);
        comesTo("+*h+911", 0, 0, 1000);
        comesTo("-*h+911", 0, 0, 999);
        comesTo("-0-9h", 0, 0, 91);
        comesTo("+hm-9hh", 0, 0, 9);
        comesTo("-*hh*h9", 0, 0, 1000);
        comesTo("-*hh*h-h1", 0, 0, 100);
        comesTo("*-1h-1h", 0, 0, 1000);
        comesTo("*-1h-12", 0, 0, 99);
        comesTo("*h*h*h*h*hh", 0, 0, 1000);
        comesTo("*-0h*h*h*h*hh", 0, 0, 0);
        comesTo("***hh*hh**hh*hh", 0, 0, 1000);
        comesTo("-5***hh*hh*h*hh", 0, 0, 0);
        comesTo("++++++1111111", 0, 0, 7);
        comesTo("+1+1+1+1+1+11", 0, 0, 7);
        comesTo("+++11+11++11+11", 0, 0, 8);
    }

    private static void refusedLaws() {
        ShopWindow x = new ShopWindow();
        int[] wrong = {Integer.MIN_VALUE, -1, 2, Integer.MAX_VALUE};
        for (int which : wrong) {
            Check.say(x, "5");
            due("11: law(" + which + ")", x.law(which), ShopWindow.OUTSIDE);
            due("11: the signs stay", x.told(0), 1);
            Check.say(x, "q");
            due("11: OUTSIDE is ahead of NO", x.law(which), ShopWindow.OUTSIDE);
            due("12: says(" + which + ", 0, 0)", x.says(which, 0, 0), ShopWindow.OUTSIDE);
            due("12: says(0, 0, " + which + ")", x.says(0, 0, which), ShopWindow.OUTSIDE);
        }
        due("11: a FAULT", x.law(0), ShopWindow.NO);
        due("11: the sign stays", x.told(0), 1);
        due("11: the LAW stays", x.says(0, 4, 0), 400);
        due("12: says(0, -1, 0)", x.says(0, -1, 0), ShopWindow.OUTSIDE);
        due("12: says(0, 5, 0)", x.says(0, 5, 0), ShopWindow.OUTSIDE);
        due("12: says(1, MAX, 1)", x.says(1, Integer.MAX_VALUE, 1), ShopWindow.OUTSIDE);
        due("12: says(1, MIN, 1)", x.says(1, Integer.MIN_VALUE, 1), ShopWindow.OUTSIDE);
    }

    /** All PARTS of a KIND: pairs of a SET and its PART, the others none. */
    private static void parts(ShopWindow x, int kind, int... pairs) {
        int[] want = new int[32];
        for (int i = 0; i < pairs.length; i += 2) {
            want[pairs[i]] = pairs[i + 1];
        }
        for (int set = 0; set < 32; set++) {
            due("13: part(" + kind + ", " + set + ")", x.part(kind, set), want[set]);
        }
    }

    private static void partsFromTheLeft() {
        ShopWindow x = new ShopWindow();
        Check.stand(x, "abc");
        x.kind(0, GLANCES, 1);
        parts(x, 0, A, 333333, B, 333333, C, 333334);
        // The second glance reaches PLACES 1 to 3.
        parts(x, 1, A | B, 166666, A | C, 166667, B | C, 666667);
        x.kind(2, REACH, 1);
        parts(x, 2, A | B, 1000000);
        x.kind(2, GLANCES, 4);
        parts(x, 2, A | B | C, 1000000);
        Check.stand(x, "abcde");
        parts(x, 2, A | B | C | D, 1000000);
        x.kind(2, GLANCES, 3);
        parts(x, 2, A | B | C, 1000000);
        Check.stand(x, "--a-b");
        x.kind(3, REACH, 3);
        x.kind(3, GLANCES, 3);
        parts(x, 3, A | B, 1000000);
        x.kind(3, GLANCES, 2);
        parts(x, 3, A, 1000000);
        x.kind(3, REACH, 4);
        parts(x, 3, A | B, 1000000);
        x.kind(3, GLANCES, 1);
        parts(x, 3, A, 1000000);
        x.kind(3, REACH, 5);
        parts(x, 3, A, 500000, B, 500000);
    }

    private static void partsFromTheRight() {
        ShopWindow x = new ShopWindow();
        for (int kind = 0; kind < 4; kind++) {
            x.kind(kind, SIDE, 1);
        }
        Check.stand(x, "--abc");
        x.kind(0, GLANCES, 1);
        // From the right, too, the PART goes PLACE by PLACE from the left on: the last one is at the right.
        parts(x, 0, A, 333333, B, 333333, C, 333334);
        // The second glance reaches PLACES 1 to 3: a and b.
        parts(x, 1, A | B, 666666, A | C, 166667, B | C, 166667);
        x.kind(2, REACH, 1);
        parts(x, 2, B | C, 1000000);
        Check.stand(x, "abcde");
        x.kind(2, GLANCES, 4);
        parts(x, 2, B | C | D | E, 1000000);
        Check.stand(x, "a");
        parts(x, 2, 0, 1000000);
        parts(x, 0, 0, 1000000);
        x.kind(3, GLANCES, 3);
        parts(x, 3, A, 1000000);
        x.kind(3, GLANCES, 2);
        parts(x, 3, 0, 1000000);
    }

    private static void partsByDraws() {
        ShopWindow x = new ShopWindow();
        x.thing(0, 0, 9);
        x.thing(1, 0, 1);
        x.thing(2, 0, 4);
        Check.stand(x, "abc");
        x.kind(0, GLANCES, 1);
        // 45, 5, 20 of 70
        parts(x, 0, A, 642857, B, 71428, C, 285715);
        x.light(2, 0);
        // 45, 5, 1 of 51
        parts(x, 0, A, 882352, B, 98039, C, 19609);
        x.thing(2, 2, 1);
        // 45, 15, 1 of 61
        parts(x, 0, A, 737704, B, 245901, C, 16395);
    }

    private static void partsByBeen() {
        ShopWindow x = new ShopWindow();
        x.thing(0, 0, 9);
        x.thing(1, 0, 1);
        x.light(0, 9);
        x.light(1, 1);
        Check.stand(x, "ab");
        x.kind(0, GLANCES, 1);
        parts(x, 0, A, 987804, B, 12196);
        x.kind(0, BEEN, 1);
        parts(x, 0, A, 975609, B, 24391);
        x.kind(0, BEEN, 9);
        parts(x, 0, A, 888888, B, 111112);
    }

    private static void partsOfAGlanceOnNothing() {
        ShopWindow x = new ShopWindow();
        parts(x, 0, 0, 1000000);
        Check.stand(x, "a");
        parts(x, 0, A, 1000000);
        x.kind(0, GLANCES, 4);
        parts(x, 0, A, 1000000);
        Check.stand(x, "-----");
        parts(x, 0, 0, 1000000);
        // Glance 0 falls on a or b; glance 1 on b, if it is not seen; glances 2, 3 on nothing.
        Check.stand(x, "ab");
        parts(x, 0, A | B, 500000, B, 500000);
    }

    private static void partsRefused() {
        ShopWindow x = new ShopWindow();
        for (int far : FAR) {
            due("13: part(" + far + ", 0)", x.part(far, 0), ShopWindow.UNKNOWN);
            due("13: part(" + far + ", 32)", x.part(far, 32), ShopWindow.UNKNOWN);
            due("14: seen(" + far + ", 0)", x.seen(far, 0), ShopWindow.UNKNOWN);
            due("15: does(" + far + ", 0)", x.does(far, 0), ShopWindow.UNKNOWN);
            due("15: does(" + far + ", 3)", x.does(far, 3), ShopWindow.UNKNOWN);
        }
        int[] wrong = {Integer.MIN_VALUE, -1, 32, Integer.MAX_VALUE};
        for (int far : wrong) {
            due("13: part(0, " + far + ")", x.part(0, far), ShopWindow.OUTSIDE);
            due("14: seen(0, " + far + ")", x.seen(0, far), ShopWindow.UNKNOWN);
            due("15: does(0, " + far + ")", x.does(0, far), ShopWindow.OUTSIDE);
            due("17: other(" + (far == 32 ? 100 : far) + ")", x.other(far == 32 ? 100 : far), ShopWindow.OUTSIDE);
        }
        due("14: seen(0, 5)", x.seen(0, 5), ShopWindow.UNKNOWN);
        due("14: seen(3, 4)", x.seen(3, 4), 0);
        due("15: does(0, 3)", x.does(0, 3), ShopWindow.OUTSIDE);
    }

    private static void seen() {
        ShopWindow x = new ShopWindow();
        Check.stand(x, "abc");
        due("14: seen(0, 0)", x.seen(0, 0), 333333);
        due("14: seen(0, 1)", x.seen(0, 1), 833333);
        due("14: seen(0, 2)", x.seen(0, 2), 833334);
        due("14: seen(0, 3)", x.seen(0, 3), 0);
        Check.stand(x, "-abc-");
        x.kind(1, SIDE, 1);
        // Places 2 to 4, then 1 to 3: b, c; then from b: a or c, from c: a or b.
        due("14: seen(1, 0)", x.seen(1, 0), 500000);
        due("14: seen(1, 1)", x.seen(1, 1), 750000);
        due("14: seen(1, 2)", x.seen(1, 2), 750000);
        x.thing(0, 0, 9);
        x.light(0, 9);
        x.thing(1, 0, 1);
        x.light(1, 1);
        Check.stand(x, "ab");
        x.kind(2, GLANCES, 1);
        // 81 to 1; having BEEN once 40 to 1
        due("14: seen(2, 0)", x.seen(2, 0), 987804);
        due("14: seen(2, 1)", x.seen(2, 1), 12196);
        due("15: does(2, 0)", x.does(2, 0), 98780 + 1219);
        due("15: does(2, 1)", x.does(2, 1), 9878 + 121);
        x.kind(2, WANTS, 0);
        due("15: does(2, 2)", x.does(2, 2), 9878 * 10 + 121 * 2);
        x.kind(2, BEEN, 1);
        due("15: does(2, 2), having BEEN", x.does(2, 2), 9756 * 10 + 243 * 2);
        due("14: seen(2, 0), having BEEN", x.seen(2, 0), 975609);
        due("15: does(2, 0), having BEEN", x.does(2, 0), 97560 + 2439);
        due("15: does(2, 1), having BEEN", x.does(2, 1), 9756 + 243);
    }

    private static void does() {
        ShopWindow x = new ShopWindow();
        Check.stand(x, "abc");
        // 166666, 166667, 666667 by 5: each is cut by itself.
        due("15: STOP", x.does(0, 0), 33333 + 33333 + 133333);
        due("15: COME", x.does(0, 1), 3333 + 3333 + 13333);
        due("15: PAY, OTHER alone", x.does(0, 2), 2 * (3333 + 3333 + 13333));
        Check.law(x, 0, "*9h");
        Check.law(x, 1, "*5h");
        due("15: STOP", x.does(0, 0), 149999 + 150000 + 600000);
        due("15: COME", x.does(0, 1), 74999 + 75000 + 300000);
        // Four are the most that are seen.
        Check.stand(x, "abcde");
        Check.law(x, 0, "*sh");
        x.kind(2, GLANCES, 4);
        x.kind(2, REACH, 1);
        due("15: STOP of four seen", x.does(2, 0), 400000);
        due("15: COME of four seen", x.does(2, 1), 200000);
        Check.law(x, 0, "*9h");
        // One who sees nothing may come in, too.
        Check.stand(x, "");
        due("15: STOP of none seen", x.does(0, 0), 900000);
        due("15: COME of none seen", x.does(0, 1), 450000);
        due("15: PAY of none seen", x.does(0, 2), 900000);
        Check.law(x, 1, "-0h");
        due("15: COME of none", x.does(0, 1), 0);
        due("15: PAY of none", x.does(0, 2), 0);
        Check.law(x, 0, "*hh");
        Check.law(x, 1, "*hh");
        x.other(99);
        due("15: STOP of all", x.does(3, 0), 1000000);
        due("15: COME of all", x.does(3, 1), 1000000);
        due("15: PAY of all", x.does(3, 2), 99000000);
    }

    private static void doesByWants() {
        ShopWindow x = new ShopWindow();
        Check.stand(x, "abc");
        x.thing(1, 1, 50);
        x.kind(0, WANTS, 1);
        // ab 3333, ac 3333, bc 13333
        due("15: PAY", x.does(0, 2), 3333 * 50 + 3333 * 2 + 13333 * 50);
        x.other(7);
        due("15: PAY with another OTHER", x.does(0, 2), 3333 * 50 + 3333 * 7 + 13333 * 50);
        x.kind(0, WANTS, 4);
        due("15: PAY, e does not stand there", x.does(0, 2), 19999 * 7);
        x.kind(0, WANTS, 5);
        due("15: PAY, none is wanted", x.does(0, 2), 19999 * 7);
        x.kind(0, WANTS, 1);
        Check.law(x, 0, "*wh");
        due("15: STOP by w", x.does(0, 0), 16666 + 66666);
        due("15: COME by w", x.does(0, 1), 1666 + 6666);
        due("15: PAY by w", x.does(0, 2), 50 * (1666 + 6666));
        x.kind(0, WANTS, 5);
        due("15: STOP by w, none is wanted", x.does(0, 0), 0);
        x.thing(1, 1, 0);
        x.kind(0, WANTS, 1);
        due("15: a COIN of 0", x.does(0, 2), 0);
    }

    private static void week() {
        ShopWindow x = new ShopWindow();
        Check.stand(x, "abc");
        x.kind(0, WANTS, 1);
        x.kind(1, WANTS, 1);
        long pay = 3333 * 10 + 3333 * 2 + 13333 * 10;
        due("16: week() of nobody", x.week(), 0);
        x.kind(0, MANY, 7);
        due("16: week()", x.week(), pay * 7 / 1000);
        x.kind(1, MANY, 3);
        // 1213 and 519 would be one less: it is cut when it is together.
        due("16: week() of two KINDS", x.week(), 1733);
        for (int kind = 0; kind < 4; kind++) {
            x.kind(kind, MANY, 999);
            x.kind(kind, WANTS, 0);
        }
        x.thing(0, 1, 99);
        Check.law(x, 0, "*hh");
        Check.law(x, 1, "*hh");
        Check.stand(x, "a");
        due("16: the greatest week()", x.week(), 99L * 999 * 4 * 1000);
        due("18: the greatest BEST", x.best(31, -1), 99L * 999 * 4 * 1000);
        // A third of a million at 1, three of them: 999 whole and 999 thousandths.
        for (int kind = 1; kind < 4; kind++) {
            x.kind(kind, MANY, 0);
        }
        x.kind(0, MANY, 3);
        x.kind(0, GLANCES, 1);
        x.thing(0, 1, 1);
        x.other(0);
        Check.stand(x, "abc");
        due("16: week() is cut", x.week(), 999);
    }

    private static void other() {
        ShopWindow x = new ShopWindow();
        due("17: other(99)", x.other(99), 2);
        due("17: other(100)", x.other(100), ShopWindow.OUTSIDE);
        due("17: other(-1)", x.other(-1), ShopWindow.OUTSIDE);
        due("17: other(0)", x.other(0), 99);
        due("17: other(5)", x.other(5), 0);
        due("17: told(2)", x.told(2), 5);
    }
}
