import java.util.ArrayDeque;
import java.util.Random;

/** Long runs of calls by lot (the same at each run), each answer held against PlainModel's. */
public final class ModelTest {
    private static final int CALLS = 512;
    private static final int[] EDGES = {Integer.MIN_VALUE, -7, -6, -3, -2, -1, 0, 1, 2, 3, 4, 5, 6, 9, 10, 11, 18, 19,
        31, 32, 33, 40, 99, 100, 101, 126, 127, 999, 1000, Integer.MAX_VALUE};

    private final Random random;
    private final int run;
    private final ShopWindow x = new ShopWindow();
    private final PlainModel model = new PlainModel();
    private final ArrayDeque<String> calls = new ArrayDeque<>();
    private int made = 0;
    private boolean wrong = false;

    private ModelTest(int run) {
        this.run = run;
        this.random = new Random(run);
    }

    public static void main(String[] args) {
        int runs = args.length > 0 ? Integer.parseInt(args[0]) : 40;
        int first = args.length > 1 ? Integer.parseInt(args[1]) : 1;
        int failed = 0;
        int made = 0;
        for (int run = first; run < first + runs && failed < 3; run++) {
            ModelTest test = new ModelTest(run);
            test.go();
            made += test.made;
            failed += test.wrong ? 1 : 0;
        }
        System.out.println(made + " calls in " + runs + " runs, " + failed + " runs with an answer not as due");
        if (failed > 0) {
            System.exit(1);
        }
    }

    private void go() {
        int dear = run % 4 == 0 ? 40 : 8;
        while (made < CALLS && !wrong) {
            int lot = random.nextInt(100);
            if (lot < 8) {
                sayAndTake(windowText(), false);
            } else if (lot < 14) {
                sayAndTake(lawText(), true);
            } else if (lot < 14 + dear) {
                dearCall();
            } else {
                cheapCall(random.nextInt(22));
            }
        }
    }

    private void sayAndTake(String text, boolean law) {
        if (random.nextInt(6) > 0) {
            answer("wipe()", x.wipe(), model.wipe());
        }
        for (char c : text.toCharArray()) {
            answer("say(" + (int) c + ")", x.say(c), model.say(c));
        }
        int which = random.nextInt(2);
        answer("fault(0)", x.fault(0), model.fault(0));
        answer("fault(1)", x.fault(1), model.fault(1));
        if (law) {
            answer("law(" + which + ")", x.law(which), model.law(which));
        } else {
            answer("window()", x.window(), model.window());
        }
    }

    private String windowText() {
        StringBuilder text = new StringBuilder();
        int length = random.nextInt(8) == 0 ? random.nextInt(8) : random.nextInt(6);
        for (int i = 0; i < length; i++) {
            char c = "abcde---abcdefA".charAt(random.nextInt(random.nextInt(10) == 0 ? 15 : 13));
            boolean twice = c != '-' && text.indexOf("" + c) >= 0;
            text.append(twice && random.nextInt(12) > 0 ? '-' : c);
        }
        return text.toString();
    }

    private String lawText() {
        StringBuilder text = new StringBuilder();
        lawPart(text, random.nextInt(7));
        if (random.nextInt(5) == 0) {
            text.setCharAt(random.nextInt(text.length()), "x+h1-m*sw/:".charAt(random.nextInt(11)));
        }
        if (random.nextInt(8) == 0) {
            text.setLength(random.nextInt(text.length() + 1));
        }
        if (random.nextInt(8) == 0) {
            text.append("1+hq".charAt(random.nextInt(4)));
        }
        return text.toString();
    }

    private void lawPart(StringBuilder text, int most) {
        if (most == 0 || text.length() > 0 && random.nextInt(5) < 2) {
            text.append("sswh0123456789hs".charAt(random.nextInt(16)));
            return;
        }
        text.append("+-*m+*".charAt(random.nextInt(6)));
        lawPart(text, most - 1);
        lawPart(text, most - 1);
    }

    /** A number of a call: mostly one that is as told, at times one beside it or far from it. */
    private int number(int least, int most) {
        int lot = random.nextInt(40);
        if (lot == 0) {
            return EDGES[random.nextInt(EDGES.length)];
        }
        if (lot == 1) {
            return random.nextBoolean() ? least - 1 : most + 1;
        }
        if (lot < 6) {
            return random.nextBoolean() ? least : most;
        }
        return least + random.nextInt(most - least + 1);
    }

    private void dearCall() {
        int a;
        int b;
        switch (random.nextInt(6)) {
            case 0:
                a = number(0, 31);
                b = number(-1, 4);
                answer("best(" + a + ", " + b + ")", x.best(a, b), model.best(a, b));
                break;
            case 1:
                a = number(0, 5);
                answer("many(" + a + ")", x.many(a), model.many(a));
                break;
            case 2:
                a = number(0, 2);
                answer("exchanges(" + a + ")", x.exchanges(a), model.exchanges(a));
                break;
            case 3:
                a = number(0, 4);
                b = number(-2, 4);
                answer("rid(" + a + ", " + b + ")", x.rid(a, b), model.rid(a, b));
                break;
            case 4:
                a = random.nextInt(3) == 0 ? number(0, 100) : number(80, 100);
                answer("stale(" + a + ")", x.stale(a), model.stale(a));
                break;
            default:
                a = random.nextInt(3) == 0 ? number(0, 100) : number(80, 100);
                answer("mends(" + a + ")", x.mends(a), model.mends(a));
        }
    }

    private void cheapCall(int which) {
        int a;
        int b;
        int c;
        int d;
        switch (which) {
            case 0: case 1:
                a = number(0, 4);
                b = number(0, 2);
                c = number(0, b == 0 ? 9 : b == 1 ? 99 : 2);
                answer("thing(" + a + ", " + b + ", " + c + ")", x.thing(a, b, c), model.thing(a, b, c));
                break;
            case 2:
                a = number(0, 4);
                b = number(0, 9);
                answer("light(" + a + ", " + b + ")", x.light(a, b), model.light(a, b));
                break;
            case 3:
                a = number(33, 126);
                answer("say(" + a + ")", x.say(a), model.say(a));
                break;
            case 4:
                a = number(0, 4);
                answer("stands(" + a + ")", x.stands(a), model.stands(a));
                break;
            case 5:
                a = number(0, 4);
                b = number(0, 18);
                answer("draws(" + a + ", " + b + ")", x.draws(a, b), model.draws(a, b));
                break;
            case 6: case 7: case 8:
                a = number(0, 3);
                b = number(0, 5);
                c = number(b == 1 || b == 2 ? 1 : 0, b == 0 ? 1 : b == 1 ? 4 : b == 3 ? 9 : b == 5 ? 999 : 5);
                answer("kind(" + a + ", " + b + ", " + c + ")", x.kind(a, b, c), model.kind(a, b, c));
                break;
            case 9:
                a = number(0, 1);
                b = number(0, 4);
                c = number(0, 1);
                answer("says(" + a + ", " + b + ", " + c + ")", x.says(a, b, c), model.says(a, b, c));
                break;
            case 10:
                a = number(0, 3);
                b = number(0, 31);
                answer("part(" + a + ", " + b + ")", x.part(a, b), model.part(a, b));
                break;
            case 11:
                a = number(0, 3);
                b = number(0, 4);
                answer("seen(" + a + ", " + b + ")", x.seen(a, b), model.seen(a, b));
                break;
            case 12:
                a = number(0, 3);
                b = number(0, 2);
                answer("does(" + a + ", " + b + ")", x.does(a, b), model.does(a, b));
                break;
            case 13: case 14:
                answer("week()", x.week(), model.week());
                break;
            case 15:
                a = number(0, 99);
                answer("other(" + a + ")", x.other(a), model.other(a));
                break;
            case 16:
                a = number(0, 10);
                b = number(0, random.nextBoolean() ? 9 : 999);
                boolean tried = random.nextBoolean();
                answer("shop(" + a + ", " + b + ", " + tried + ")", x.shop(a, b, tried), model.shop(a, b, tried));
                break;
            case 17:
                a = number(0, 1);
                answer("lot(" + a + ")", x.lot(a), model.lot(a));
                break;
            case 18:
                a = number(0, 999);
                b = number(0, 999);
                c = number(0, Math.max(0, Math.min(a, b)) % 1000);
                d = number(0, 2);
                answer("boys(" + a + ", " + b + ", " + c + ", " + d + ")", x.boys(a, b, c, d), model.boys(a, b, c, d));
                break;
            case 19:
                a = number(0, 1);
                answer("image(" + a + ")", x.image(a), model.image(a));
                break;
            case 20:
                a = number(0, 1);
                if (random.nextInt(3) == 0) {
                    answer("restore(" + a + ")", x.restore(a), model.restore(a));
                }
                break;
            default:
                a = random.nextBoolean() ? number(0, 75) : number(50, 73);
                answer("told(" + a + ")", x.told(a), model.told(a));
        }
    }

    private void answer(String call, long got, long want) {
        made++;
        calls.addLast(call);
        if (calls.size() > 40) {
            calls.removeFirst();
        }
        if (got != want && !wrong) {
            wrong = true;
            System.out.println("run " + run + ", call " + made + ": " + call + " answered " + got + ", due is " + want);
            System.out.println("  the last calls: " + calls);
        }
    }
}
