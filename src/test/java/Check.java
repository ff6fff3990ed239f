/** Counts answers that are not as due and says them; every test of the project ends through end(). */
final class Check {
    private int wrong = 0;
    private int asked = 0;

    /** A call, as it is written, its answer and the one that is due. */
    void due(String call, long got, long want) {
        asked++;
        if (got != want) {
            wrong++;
            System.out.println(call + " answered " + got + ", due is " + want);
        }
    }

    void holds(String what, boolean so) {
        asked++;
        if (!so) {
            wrong++;
            System.out.println("does not hold: " + what);
        }
    }

    boolean tooManyWrong() {
        return wrong > 50;
    }

    void end() {
        System.out.println(asked + " answers looked at, " + wrong + " not as due");
        if (wrong != 0 || asked == 0) {
            System.exit(1);
        }
    }
}
