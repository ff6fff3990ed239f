/** Promises 24 to 29 and what the Terms say for them, one method a sentence. */
final class EdgesOfShops {
    private static final int NONE = ShopWindow.NONE, UNKNOWN = ShopWindow.UNKNOWN, OUTSIDE = ShopWindow.OUTSIDE;
    private static final int STATE = ShopWindow.STATE;
    private static final long LOST = ShopWindow.LOST;
    private static final int SHOPS = 11;

    private final Edge e;

    EdgesOfShops(Edge e) {
        this.e = e;
    }

    void all() {
        shops();
        shop();
        lotOfWays();
        lotOfNoneAndAll();
        lowestTerms();
        lot();
        counted();
        guess();
        missed();
        boys();
        image();
        restore();
        told();
    }

    private void shops() {
        e.sentence(24, "SHOPS 0 to 10: what came in (0 to 999; 0 at first), and whether the WINDOW tried stood there"
                + " (not at first).");
        ShopWindow x = new ShopWindow();
        e.due("told(3) at first", x.told(3), 0);
        for (int shop = 0; shop <= 10; shop++) {
            String call = "shop(" + shop + ", ";
            e.due(call + "0, true)", x.shop(shop, 0, true), 0);
            e.due("told(3)", x.told(3), 1 << shop);
            e.due(call + "999, true)", x.shop(shop, 999, true), 0);
            for (int v : Edge.beyond(0, 999)) {
                e.due(call + v + ", false)", x.shop(shop, v, false), OUTSIDE);
                e.due("told(3) stays", x.told(3), 1 << shop);
            }
            e.due(call + "0, false)", x.shop(shop, 0, false), 999);
            e.due("told(3)", x.told(3), 0);
        }
        for (int shop : Edge.beyond(0, 10)) {
            e.due("shop(" + shop + ", 1, true)", x.shop(shop, 1, true), UNKNOWN);
            e.due("told(3) stays", x.told(3), 0);
        }
        // Bits are counted round in an int: SHOP 32 would be SHOP 0.
        e.due("shop(32, 1, true)", x.shop(32, 1, true), UNKNOWN);
        e.due("told(3) stays", x.told(3), 0);
    }

    private void shop() {
        e.sentence(24, "A SHOP: what came in, whether the WINDOW tried stood there: what came in ahead."
                + " UNKNOWN; OUTSIDE.");
        ShopWindow x = new ShopWindow();
        e.due("shop(10, 5, true)", x.shop(10, 5, true), 0);
        e.due("shop(10, 6, true)", x.shop(10, 6, true), 5);
        e.due("shop(10, 6, false)", x.shop(10, 6, false), 6);
        e.due("told(3)", x.told(3), 0);
        e.due("SHOP 9 is as it was", x.shop(9, 1, false), 0);
        for (int shop : Edge.beyond(0, 10)) {
            e.due("shop(" + shop + ", 1000, true): UNKNOWN is ahead", x.shop(shop, 1000, true), UNKNOWN);
        }
        e.due("shop(10, 1000, true)", x.shop(10, 1000, true), OUTSIDE);
        e.due("told(3) stays", x.told(3), 0);
        e.due("what came in stays", x.shop(10, 0, false), 6);
    }

    private void odds(String of, ShopWindow x, long upper, long lower) {
        e.due(of + ": lot(0)", x.lot(0), upper);
        e.due(of + ": lot(1)", x.lot(1), lower);
    }

    /** SHOP s takes v[s]; those of the bits have it. */
    private static ShopWindow took(int tried, int... v) {
        ShopWindow x = new ShopWindow();
        for (int shop = 0; shop < SHOPS; shop++) {
            x.shop(shop, v[shop], (tried >> shop & 1) == 1);
        }
        return x;
    }

    private void lotOfWays() {
        e.sentence(25, "LOT: of all ways to choose as many SHOPS as have it those in which they took no less together.");
        int[] steps = {0, 1, 2, 3, 4, 5, 6, 7, 8, 9, 10};
        odds("the greatest alone", took(1 << 10, steps), 1, 11);
        odds("the least alone", took(1, steps), 1, 1);
        odds("the one ahead of the least", took(2, steps), 10, 11);
        // 17 and more: 10 with 7, 8, 9, and 9 with 8.
        odds("9 and 8", took(1 << 9 | 1 << 8, steps), 4, 55);
        odds("10 and 9", took(1 << 10 | 1 << 9, steps), 1, 55);
        // No less is as much, too: all are alike.
        int[] alike = {7, 7, 7, 7, 7, 7, 7, 7, 7, 7, 7};
        odds("three, all alike", took(7, alike), 1, 1);
        int[] most = {999, 999, 999, 999, 999, 999, 999, 999, 999, 999, 998};
        odds("the most, without the least", took(1023, most), 1, 11);
        odds("the most, with the least", took(2046, most), 1, 1);
        odds("the most, one", took(1, most), 10, 11);
    }

    private void lotOfNoneAndAll() {
        e.sentence(25, "of all ways to choose as many SHOPS as have it");
        long[] ways = {1, 11, 55, 165, 330, 462, 462, 330, 165, 55, 11, 1};
        odds("at first none has it", new ShopWindow(), 1, 1);
        for (int number = 0; number <= SHOPS; number++) {
            int[] v = new int[SHOPS];
            for (int shop = 0; shop < number; shop++) {
                v[shop] = 1;
            }
            odds(number + " have it, they alone took anything", took((1 << number) - 1, v), 1, ways[number]);
        }
        int[] steps = {0, 1, 2, 3, 4, 5, 6, 7, 8, 9, 10};
        odds("none has it", took(0, steps), 1, 1);
        odds("all have it", took(2047, steps), 1, 1);
    }

    private void lowestTerms() {
        e.sentence(25, "Fractions are told by part: 0 the upper, 1 the lower number, in lowest terms; refused with LOST"
                + " and the refusal.");
        int[] one = {1, 0, 0, 0, 0, 0, 0, 0, 0, 0, 0};
        // One of two or more: 10 of 55, 45 of 165, 120 of 330, 210 of 462, ...
        for (int number = 1; number <= 10; number++) {
            odds(number + " have it", took((1 << number) - 1, one), number, 11);
        }
        odds("all have it", took(2047, one), 1, 1);
        ShopWindow x = took(3, one);
        e.due("lot(2)", x.lot(2), -1000000000000000002L);
        e.due("LOST and OUTSIDE", x.lot(-1), LOST + OUTSIDE);
        odds("they stay", x, 2, 11);
    }

    private void lot() {
        e.sentence(25, "LOT: the odds. OUTSIDE (LOST less 2).");
        ShopWindow x = new ShopWindow();
        e.due("lot(0)", x.lot(0), 1);
        e.due("lot(1)", x.lot(1), 1);
        for (int part : Edge.beyond(0, 1)) {
            e.due("lot(" + part + ")", x.lot(part), LOST - 2);
        }
    }

    private void counted() {
        e.sentence(26, "TWO BOYS counted n, m (0 to 999), of these b both (0 to the lesser): those who surely went by:"
                + " n and m less b");
        ShopWindow x = new ShopWindow();
        e.due("boys(0, 0, 0, 0)", x.boys(0, 0, 0, 0), 0);
        e.due("boys(999, 999, 0, 0)", x.boys(999, 999, 0, 0), 1998);
        e.due("boys(999, 999, 999, 0)", x.boys(999, 999, 999, 0), 999);
        e.due("boys(999, 0, 0, 0)", x.boys(999, 0, 0, 0), 999);
        e.due("boys(0, 999, 0, 0)", x.boys(0, 999, 0, 0), 999);
        e.due("boys(999, 0, 1, 0)", x.boys(999, 0, 1, 0), OUTSIDE);
        e.due("boys(0, 999, 1, 0)", x.boys(0, 999, 1, 0), OUTSIDE);
        e.due("boys(3, 9, 3, 0)", x.boys(3, 9, 3, 0), 9);
        e.due("boys(3, 9, 4, 0)", x.boys(3, 9, 4, 0), OUTSIDE);
        e.due("boys(9, 3, 3, 0)", x.boys(9, 3, 3, 0), 9);
        e.due("boys(9, 3, 4, 0)", x.boys(9, 3, 4, 0), OUTSIDE);
        for (int bad : Edge.beyond(0, 999)) {
            e.due("boys(" + bad + ", 5, 0, 0)", x.boys(bad, 5, 0, 0), OUTSIDE);
            e.due("boys(5, " + bad + ", 0, 0)", x.boys(5, bad, 0, 0), OUTSIDE);
            e.due("boys(" + bad + ", " + bad + ", 0, 0)", x.boys(bad, bad, 0, 0), OUTSIDE);
        }
        for (int bad : Edge.beyond(0, 5)) {
            e.due("boys(5, 5, " + bad + ", 0)", x.boys(5, 5, bad, 0), OUTSIDE);
        }
        e.due("boys(999, 999, 1000, 0)", x.boys(999, 999, 1000, 0), OUTSIDE);
    }

    private void guess() {
        e.sentence(26, "GUESS: n times m by b (NONE: b is 0)");
        ShopWindow x = new ShopWindow();
        e.due("boys(7, 9, 4, 1): 15.75 is cut", x.boys(7, 9, 4, 1), 15);
        e.due("boys(7, 9, 1, 1)", x.boys(7, 9, 1, 1), 63);
        e.due("boys(7, 9, 7, 1)", x.boys(7, 9, 7, 1), 9);
        e.due("boys(999, 999, 1, 1)", x.boys(999, 999, 1, 1), 998001);
        e.due("boys(999, 999, 998, 1)", x.boys(999, 999, 998, 1), 1000);
        e.due("boys(7, 9, 0, 1)", x.boys(7, 9, 0, 1), NONE);
        e.due("boys(0, 0, 0, 1)", x.boys(0, 0, 0, 1), NONE);
        e.due("boys(0, 999, 0, 1)", x.boys(0, 999, 0, 1), NONE);
    }

    private void missed() {
        e.sentence(26, "MISSED by both: GUESS less those.");
        ShopWindow x = new ShopWindow();
        e.due("boys(7, 9, 4, 2): 15 less 12", x.boys(7, 9, 4, 2), 3);
        e.due("boys(7, 9, 7, 2)", x.boys(7, 9, 7, 2), 0);
        e.due("boys(999, 999, 1, 2)", x.boys(999, 999, 1, 2), 996004);
        e.due("boys(7, 9, 0, 2)", x.boys(7, 9, 0, 2), NONE);
        e.due("boys(0, 0, 0, 2)", x.boys(0, 0, 0, 2), NONE);
    }

    private void boys() {
        e.sentence(26, "TWO BOYS: who surely went by (what = 0), GUESS (1), MISSED (2); NONE. OUTSIDE.");
        ShopWindow x = new ShopWindow();
        int[] want = {12, 15, 3};
        for (int what = 0; what <= 2; what++) {
            e.due("boys(7, 9, 4, " + what + ")", x.boys(7, 9, 4, what), want[what]);
            e.due("boys(7, 9, 8, " + what + ")", x.boys(7, 9, 8, what), OUTSIDE);
            e.due("boys(7, 9, -1, " + what + ")", x.boys(7, 9, -1, what), OUTSIDE);
            e.due("boys(1000, 1000, 0, " + what + ")", x.boys(1000, 1000, 0, what), OUTSIDE);
            e.due("boys(7, 9, 0, " + what + ")", x.boys(7, 9, 0, what), what == 0 ? 16 : NONE);
        }
        for (int what : Edge.beyond(0, 2)) {
            e.due("boys(7, 9, 4, " + what + ")", x.boys(7, 9, 4, what), OUTSIDE);
            e.due("boys(7, 9, 0, " + what + "): not NONE", x.boys(7, 9, 0, what), OUTSIDE);
        }
    }

    private void image() {
        e.sentence(27, "All but signs is kept in an IMAGE (0, 1): 1. OUTSIDE.");
        ShopWindow x = new ShopWindow();
        for (int n : Edge.beyond(0, 1)) {
            e.due("image(" + n + ")", x.image(n), OUTSIDE);
        }
        Check.say(x, "ab");
        for (int n = 0; n <= 1; n++) {
            e.due("restore(" + n + ") is still of none", x.restore(n), STATE);
            e.due("image(" + n + ")", x.image(n), 1);
            e.due("signs stay", x.told(0), 2);
        }
        x.say('c');
        e.due("restore(0)", x.restore(0), 1);
        e.due("signs are not kept", x.told(0), 3);
        e.due("the very signs", x.window(), 3);
        e.due("image(0) over another", x.image(0), 1);
        Check.stand(x, "e");
        e.due("restore(0)", x.restore(0), 1);
        e.due("the later one is kept", x.told(1), 7);
        e.due("restore(1)", x.restore(1), 1);
        e.due("the other one is as it was", x.told(1), 0);
    }

    private void restore() {
        e.sentence(28, "It is as it was when it was kept: 1. OUTSIDE; STATE: it was not.");
        ShopWindow x = new ShopWindow();
        e.due("restore(0) of none", x.restore(0), STATE);
        e.due("restore(1) of none", x.restore(1), STATE);
        x.other(40);
        x.image(1);
        x.other(50);
        e.due("restore(0) of none", x.restore(0), STATE);
        e.due("OTHER stays", x.told(2), 50);
        for (int n : Edge.beyond(0, 1)) {
            e.due("restore(" + n + "): OUTSIDE is ahead of STATE", x.restore(n), OUTSIDE);
        }
        e.due("OTHER stays", x.told(2), 50);
        e.due("restore(1)", x.restore(1), 1);
        e.due("OTHER", x.told(2), 40);
        x.other(60);
        e.due("restore(1) again", x.restore(1), 1);
        e.due("OTHER", x.told(2), 40);
    }

    private void told() {
        e.sentence(29, "0 signs, 1 THINGS in the WINDOW, as bits, 2 OTHER, 3 SHOPS with the WINDOW tried, as bits,"
                + " 10 to 14 CATCH, 20 to 24 COIN, 30 to 34 LOOKS, 40 to 44 LIGHT, 50 to 73 KINDS (six of each)."
                + " OUTSIDE.");
        ShopWindow x = new ShopWindow();
        Check.stand(x, "e-d-a");
        Check.say(x, "xyz");
        x.other(77);
        x.shop(0, 0, true);
        x.shop(10, 0, true);
        int[] first = {3, 25, 77, 1025};
        for (int what = 0; what <= 3; what++) {
            e.due("told(" + what + ")", x.told(what), first[what]);
        }
        for (int i = 0; i <= 4; i++) {
            x.thing(i, 0, i + 1);
            x.thing(i, 1, 30 + i);
            x.thing(i, 2, (i + 1) % 3);
            x.light(i, 9 - i);
            e.due("told(" + (10 + i) + ")", x.told(10 + i), i + 1);
            e.due("told(" + (20 + i) + ")", x.told(20 + i), 30 + i);
            e.due("told(" + (30 + i) + ")", x.told(30 + i), (i + 1) % 3);
            e.due("told(" + (40 + i) + ")", x.told(40 + i), 9 - i);
        }
        for (int kind = 0; kind <= 3; kind++) {
            int[] v = {1 - kind % 2, 1 + kind, 2 + kind, 5 + kind, 4 - kind, 100 + kind};
            for (int what = 0; what <= 5; what++) {
                x.kind(kind, what, v[what]);
                e.due("told(" + (50 + 6 * kind + what) + ")", x.told(50 + 6 * kind + what), v[what]);
            }
        }
        int[] none = {Edge.LEAST, -10, -1, 4, 9, 15, 19, 25, 29, 35, 39, 45, 49, 74, 79, 100, Edge.MOST};
        for (int what : none) {
            e.due("told(" + what + ")", x.told(what), OUTSIDE);
        }
    }
}
