/** Compares answers with what is due and keeps count of the wrong ones. */
final class Due {
    static final long LOST = Long.MIN_VALUE;

    private static int wrong = 0;
    private static int looked = 0;
    private static String about = "";

    private Due() { }

    /** What the following answers are looked at for; it is told with each that is wrong. */
    static void about(String what) {
        about = what;
    }

    static void is(String call, long got, long want) {
        looked++;
        if (got != want) {
            wrong++;
            System.out.println(about + call + " answered " + got + ", due is " + want);
        }
    }

    static void holds(String what, boolean held) {
        looked++;
        if (!held) {
            wrong++;
            System.out.println(about + "does not hold: " + what);
        }
    }

    static int looked() {
        return looked;
    }

    static boolean tooManyWrong() {
        return wrong > 20;
    }

    static void end() {
        System.out.println(looked + " answers looked at, " + wrong + " not as due");
        if (wrong != 0 || looked == 0) {
            System.exit(1);
        }
    }
}
