/** Counts answers that are not as due and says them; every test of the project ends through end(). */
final class Check {
    private int wrong = 0;
    private int asked = 0;

    /** A call, as it is written, its answer and the one that is due. */
    void due(String call, long got, long want) {
        asked++;
        if (got != want) {
            wrong++;
            System.out.println(call + " answered " + got + ", due is " + want);
        }
    }

    void holds(String what, boolean so) {
        asked++;
        if (!so) {
            wrong++;
            System.out.println("does not hold: " + what);
        }
    }

    /** An empty PAD takes a text. */
    static void say(ShopWindow x, String text) {
        x.wipe();
        for (char sign : text.toCharArray()) {
            x.say(sign);
        }
    }

    static void stand(ShopWindow x, String window) {
        say(x, window);
        x.window();
    }

    static void law(ShopWindow x, int which, String text) {
        say(x, text);
        x.law(which);
    }

    void end() {
        System.out.println(asked + " answers looked at, " + wrong + " not as due");
        if (wrong != 0 || asked == 0) {
            System.exit(1);
        }
    }
}
