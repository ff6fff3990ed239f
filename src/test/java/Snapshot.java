/** All that can be asked of an object, as one text: it is the same behind a call that changes nothing. */
final class Snapshot {
    private Snapshot() {
    }

    static String of(ShopWindow x) {
        StringBuilder all = new StringBuilder(ofAllButSigns(x));
        all.append(" signs ").append(x.told(0)).append(' ').append(x.fault(0)).append(' ').append(x.fault(1));
        return all.toString();
    }

    static String ofAllButSigns(ShopWindow x) {
        StringBuilder all = new StringBuilder();
        for (int what = 1; what < 74; what++) {
            all.append(x.told(what)).append(' ');
        }
        for (int place = 0; place < 5; place++) {
            all.append(x.stands(place)).append(' ').append(x.draws(place, 0)).append(' ');
        }
        for (int i = 0; i < 20; i++) {
            all.append(x.says(i / 10, i / 2 % 5, i % 2)).append(' ');
        }
        for (int kind = 0; kind < 4; kind++) {
            for (int set = 0; set < 32; set++) {
                all.append(x.part(kind, set)).append(' ');
            }
            for (int thing = 0; thing < 5; thing++) {
                all.append(x.seen(kind, thing)).append(' ');
            }
            for (int what = 0; what < 3; what++) {
                all.append(x.does(kind, what)).append(' ');
            }
        }
        all.append(x.week()).append(' ').append(x.stale(97)).append(' ').append(x.mends(97)).append(' ');
        for (int place = -1; place < 5; place++) {
            all.append(x.best(31, place)).append(' ').append(x.rid(3, place)).append(' ');
        }
        for (int n = 0; n < 6; n++) {
            all.append(x.many(n)).append(' ');
        }
        for (int what = 0; what < 3; what++) {
            all.append(x.exchanges(what)).append(' ');
        }
        all.append(x.lot(0)).append(' ').append(x.lot(1));
        taken(x, all);
        return all.toString();
    }

    /** What came in at each SHOP is told by shop alone, which changes it: so it is put back. */
    private static void taken(ShopWindow x, StringBuilder all) {
        int tried = x.told(3);
        for (int shop = 0; shop < 11; shop++) {
            boolean stood = (tried >> shop & 1) == 1;
            int came = x.shop(shop, 0, stood);
            x.shop(shop, came, stood);
            all.append(' ').append(came);
        }
    }
}
