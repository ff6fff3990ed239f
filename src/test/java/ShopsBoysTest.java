/** Promises 24 to 29: SHOPS, LOT, TWO BOYS, IMAGES, what is told. */
public final class ShopsBoysTest {
    private static final int[] FAR = {Integer.MIN_VALUE, -6, -1, 11, 12, 32, Integer.MAX_VALUE};
    private static final int[] NOT_0_1 = {Integer.MIN_VALUE, -2, -1, 2, 3, Integer.MAX_VALUE};

    private static final Check CHECK = new Check();

    private static void due(String call, long got, long want) {
        CHECK.due(call, got, want);
    }

    public static void main(String[] args) {
        shop();
        lot();
        lotOfAnyNumber();
        boys();
        boysRefused();
        imageKeepsAll();
        signsStay();
        imagesAreTwo();
        told();
        CHECK.end();
    }

    private static void shop() {
        ShopWindow x = new ShopWindow();
        for (int shop = 0; shop < 11; shop++) {
            due("24: shop(" + shop + ", 999, true)", x.shop(shop, 999, true), 0);
            due("24: told(3)", x.told(3), (1 << shop + 1) - 1);
            due("24: shop(" + shop + ", 1000, false)", x.shop(shop, 1000, false), ShopWindow.OUTSIDE);
            due("24: shop(" + shop + ", -1, false)", x.shop(shop, -1, false), ShopWindow.OUTSIDE);
            due("24: shop(" + shop + ", MIN, false)", x.shop(shop, Integer.MIN_VALUE, false), ShopWindow.OUTSIDE);
            due("24: told(3) stays", x.told(3), (1 << shop + 1) - 1);
        }
        for (int far : FAR) {
            due("24: shop(" + far + ", 0, false)", x.shop(far, 0, false), ShopWindow.UNKNOWN);
            due("24: UNKNOWN is ahead of OUTSIDE", x.shop(far, 1000, false), ShopWindow.UNKNOWN);
        }
        for (int shop = 0; shop < 11; shop++) {
            due("24: what came in ahead", x.shop(shop, 0, shop % 2 == 0), 999);
            due("24: each is kept by itself", x.shop(shop, shop, shop % 2 == 0), 0);
        }
        due("24: told(3)", x.told(3), 0b10101010101);
        for (int shop = 0; shop < 11; shop++) {
            due("24: what came in ahead", x.shop(shop, 0, false), shop);
        }
        due("24: told(3)", x.told(3), 0);
    }

    private static void odds(ShopWindow x, long upper, long lower) {
        due("25: lot(0)", x.lot(0), upper);
        due("25: lot(1)", x.lot(1), lower);
    }

    private static void lot() {
        ShopWindow x = new ShopWindow();
        odds(x, 1, 1);
        for (int shop = 0; shop < 11; shop++) {
            x.shop(shop, shop, false);
        }
        odds(x, 1, 1);
        // One of eleven took no less: itself and those that took more.
        x.shop(10, 10, true);
        odds(x, 1, 11);
        x.shop(10, 10, false);
        x.shop(0, 0, true);
        odds(x, 1, 1);
        x.shop(0, 0, false);
        x.shop(4, 4, true);
        odds(x, 7, 11);
        // 4 and 10: pairs of 14 and more: 10 with 4 to 9, 9 with 5 to 8, 8 with 6, 7 are 6, 4, 2 of 55.
        x.shop(10, 10, true);
        odds(x, 12, 55);
        // 9 and 8: 17 and more: 9 with 10, 8 with 10, 7 with 10, 9 with 8.
        x.shop(10, 10, false);
        x.shop(4, 4, false);
        x.shop(9, 9, true);
        x.shop(8, 8, true);
        odds(x, 4, 55);
        for (int part : NOT_0_1) {
            due("25: lot(" + part + ")", x.lot(part), ShopWindow.LOST - 2);
        }
        due("25: LOST less 2", x.lot(2), -1000000000000000002L);
    }

    /** All SHOPS took the same, or but one: odds that can be told for any number that have it. */
    private static void lotOfAnyNumber() {
        long[] ways = {1, 11, 55, 165, 330, 462, 462, 330, 165, 55, 11, 1};
        for (int number = 0; number <= 11; number++) {
            ShopWindow x = new ShopWindow();
            for (int shop = 0; shop < 11; shop++) {
                x.shop(shop, 7, shop < number);
            }
            odds(x, 1, 1);
            if (number == 0) {
                continue;
            }
            // With the one that took more among them: as many as choose it, number of 11.
            x.shop(0, 8, true);
            odds(x, number == 11 ? 1 : number, number == 11 ? 1 : 11);
            // The powers of two (as far as they go): the greatest ones alone take so much.
            for (int shop = 0; shop < 10; shop++) {
                x.shop(shop, 1 << shop, shop >= 10 - Math.min(10, number));
            }
            x.shop(10, 0, number == 11);
            odds(x, 1, ways[number]);
        }
    }

    private static void boys() {
        ShopWindow x = new ShopWindow();
        due("26: surely", x.boys(7, 9, 4, 0), 12);
        due("26: GUESS", x.boys(7, 9, 4, 1), 15);
        due("26: MISSED", x.boys(7, 9, 4, 2), 3);
        due("26: surely, none both", x.boys(7, 9, 0, 0), 16);
        due("26: GUESS, none both", x.boys(7, 9, 0, 1), ShopWindow.NONE);
        due("26: MISSED, none both", x.boys(7, 9, 0, 2), ShopWindow.NONE);
        due("26: all both", x.boys(7, 9, 7, 0), 9);
        due("26: all both", x.boys(7, 9, 7, 1), 9);
        due("26: all both", x.boys(7, 9, 7, 2), 0);
        due("26: nobody", x.boys(0, 0, 0, 0), 0);
        due("26: nobody", x.boys(0, 0, 0, 1), ShopWindow.NONE);
        due("26: nobody", x.boys(0, 999, 0, 2), ShopWindow.NONE);
        due("26: the most", x.boys(999, 999, 0, 0), 1998);
        due("26: the most", x.boys(999, 999, 1, 1), 998001);
        due("26: the most", x.boys(999, 999, 1, 2), 996004);
        due("26: the most both", x.boys(999, 999, 999, 1), 999);
    }

    private static void boysRefused() {
        ShopWindow x = new ShopWindow();
        int[] wrong = {Integer.MIN_VALUE, -1, 1000, Integer.MAX_VALUE};
        for (int far : wrong) {
            for (int what = 0; what < 3; what++) {
                due("26: boys(" + far + ", 5, 0, ..)", x.boys(far, 5, 0, what), ShopWindow.OUTSIDE);
                due("26: boys(5, " + far + ", 0, ..)", x.boys(5, far, 0, what), ShopWindow.OUTSIDE);
                due("26: boys(5, 5, " + far + ", ..)", x.boys(5, 5, far, what), ShopWindow.OUTSIDE);
                due("26: boys(" + far + ", " + far + ", " + far + ", ..)", x.boys(far, far, far, what),
                        ShopWindow.OUTSIDE);
            }
            due("26: boys(5, 5, 5, " + far + ")", x.boys(5, 5, 5, far), ShopWindow.OUTSIDE);
        }
        due("26: more both than one", x.boys(3, 9, 4, 0), ShopWindow.OUTSIDE);
        due("26: more both than the other", x.boys(9, 3, 4, 0), ShopWindow.OUTSIDE);
        due("26: boys(5, 5, 0, 3)", x.boys(5, 5, 0, 3), ShopWindow.OUTSIDE);
        due("26: boys(5, 5, 0, -1)", x.boys(5, 5, 0, -1), ShopWindow.OUTSIDE);
    }

    /** All that an IMAGE keeps, in other words than at first. */
    private static void stir(ShopWindow x, int by) {
        for (int i = 0; i < 5; i++) {
            x.thing(i, 0, (i + by) % 10);
            x.thing(i, 1, 50 + i + by);
            x.thing(i, 2, (i + by) % 3);
            x.light(i, 9 - (i + by) % 10);
        }
        for (int kind = 0; kind < 4; kind++) {
            x.kind(kind, 0, (kind + by) % 2);
            x.kind(kind, 1, 1 + (kind + by) % 4);
            x.kind(kind, 2, 1 + (kind + 2 * by) % 5);
            x.kind(kind, 3, (kind + by) % 10);
            x.kind(kind, 4, (kind + by) % 6);
            x.kind(kind, 5, 100 * kind + by);
        }
        Check.law(x, 0, by % 2 == 0 ? "*3h" : "*7s");
        Check.law(x, 1, by % 2 == 0 ? "*ws" : "+h*wh");
        Check.stand(x, by % 2 == 0 ? "-cab" : "e-d-b");
        x.other(30 + by);
        for (int shop = 0; shop < 11; shop++) {
            x.shop(shop, 10 * by + shop * shop % 7, (shop + by) % 3 == 0);
        }
    }

    private static ShopWindow stirredAnew(int by) {
        ShopWindow x = new ShopWindow();
        stir(x, by);
        return x;
    }

    /** A new object, kept, stirred, kept, stirred anew, then restored from some IMAGES one after another. */
    private static ShopWindow restored(int... images) {
        ShopWindow x = new ShopWindow();
        due("27: image(0)", x.image(0), 1);
        stir(x, 4);
        due("27: image(1)", x.image(1), 1);
        stir(x, 7);
        for (int n : images) {
            due("28: restore(" + n + ")", x.restore(n), 1);
        }
        return x;
    }

    private static void imageKeepsAll() {
        String first = Snapshot.ofAllButSigns(new ShopWindow());
        String four = Snapshot.ofAllButSigns(stirredAnew(4));
        String seven = Snapshot.ofAllButSigns(stirredAnew(7));
        CHECK.holds("27: they are others", !first.equals(four) && !four.equals(seven) && !seven.equals(first));
        CHECK.holds("27: image changes nothing", seven.equals(Snapshot.ofAllButSigns(restored())));
        CHECK.holds("28: as at first", first.equals(Snapshot.ofAllButSigns(restored(0))));
        CHECK.holds("28: as stirred", four.equals(Snapshot.ofAllButSigns(restored(1))));
        CHECK.holds("28: one behind the other", four.equals(Snapshot.ofAllButSigns(restored(0, 1))));
        CHECK.holds("28: and back", first.equals(Snapshot.ofAllButSigns(restored(1, 0, 1, 0))));
        ShopWindow x = restored(1);
        stir(x, 9);
        due("28: restore(1) again", x.restore(1), 1);
        CHECK.holds("28: what changed since is not in the IMAGE", four.equals(Snapshot.ofAllButSigns(x)));
    }

    private static void signsStay() {
        ShopWindow x = new ShopWindow();
        Check.say(x, "ab-");
        x.image(0);
        due("27: signs stay", x.told(0), 3);
        x.say('a');
        x.say('c');
        x.restore(0);
        due("28: signs stay", x.told(0), 5);
        due("28: the very signs", x.fault(0), 3);
        x.wipe();
        x.restore(0);
        due("28: wiped signs do not come back", x.told(0), 0);
    }

    private static void imagesAreTwo() {
        ShopWindow x = new ShopWindow();
        for (int n : NOT_0_1) {
            due("27: image(" + n + ")", x.image(n), ShopWindow.OUTSIDE);
            due("28: restore(" + n + ")", x.restore(n), ShopWindow.OUTSIDE);
        }
        due("28: restore(0)", x.restore(0), ShopWindow.STATE);
        due("28: restore(1)", x.restore(1), ShopWindow.STATE);
        x.other(1);
        due("27: image(1)", x.image(1), 1);
        due("28: restore(0) of none kept", x.restore(0), ShopWindow.STATE);
        x.other(3);
        due("27: image(0)", x.image(0), 1);
        x.other(5);
        due("28: restore(1)", x.restore(1), 1);
        due("28: OTHER", x.told(2), 1);
        due("28: restore(0): an IMAGE holds no IMAGES", x.restore(0), 1);
        due("28: OTHER", x.told(2), 3);
        due("27: image(1) anew", x.image(1), 1);
        x.other(9);
        due("28: restore(1)", x.restore(1), 1);
        due("28: OTHER", x.told(2), 3);
    }

    private static void told() {
        ShopWindow x = new ShopWindow();
        Check.stand(x, "d-a");
        for (int i = 0; i < 5; i++) {
            x.thing(i, 0, i + 1);
            x.thing(i, 1, 20 + i);
            x.thing(i, 2, i % 3);
            x.light(i, 9 - i);
        }
        x.other(77);
        x.shop(10, 5, true);
        x.shop(1, 5, true);
        Check.say(x, "xy");
        due("29: told(0)", x.told(0), 2);
        due("29: told(1)", x.told(1), 9);
        due("29: told(2)", x.told(2), 77);
        due("29: told(3)", x.told(3), 1026);
        for (int i = 0; i < 5; i++) {
            due("29: told(" + (10 + i) + ")", x.told(10 + i), i + 1);
            due("29: told(" + (20 + i) + ")", x.told(20 + i), 20 + i);
            due("29: told(" + (30 + i) + ")", x.told(30 + i), i % 3);
            due("29: told(" + (40 + i) + ")", x.told(40 + i), 9 - i);
        }
        for (int kind = 0; kind < 4; kind++) {
            int[] v = {kind % 2, 1 + kind, 2 + kind, 6 + kind, 5 - kind, 111 * kind};
            for (int what = 0; what < 6; what++) {
                x.kind(kind, what, v[what]);
                due("29: told(" + (50 + 6 * kind + what) + ")", x.told(50 + 6 * kind + what), v[what]);
            }
        }
        for (int what = -100; what < 200; what++) {
            boolean is = what >= 0 && what <= 3 || what >= 50 && what <= 73
                    || what >= 10 && what < 50 && what % 10 <= 4;
            if (!is) {
                due("29: told(" + what + ")", x.told(what), ShopWindow.OUTSIDE);
            }
        }
        due("29: told(MIN)", x.told(Integer.MIN_VALUE), ShopWindow.OUTSIDE);
        due("29: told(MAX)", x.told(Integer.MAX_VALUE), ShopWindow.OUTSIDE);
    }
}
