/** Compares answers with what is due and keeps count of the wrong ones. */
final class Due {
    static final long LOST = Long.MIN_VALUE;

    private static int wrong = 0;
    private static int looked = 0;

    private Due() { }

    static void is(String call, long got, long want) {
        looked++;
        if (got != want) {
            wrong++;
            System.out.println(call + " answered " + got + ", due is " + want);
        }
    }

    static void holds(String what, boolean held) {
        looked++;
        if (!held) {
            wrong++;
            System.out.println("does not hold: " + what);
        }
    }

    static boolean tooManyWrong() {
        return wrong > 20;
    }

    static void end() {
        System.out.println(looked + " answers looked at, " + wrong + " not as due");
        if (wrong != 0 || looked == 0) {
            System.exit(1);
        }
    }
}
