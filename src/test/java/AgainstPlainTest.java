import java.util.Random;

/** Long runs of calls, drawn from fixed seeds, on the class and on Plain side by side. */
public final class AgainstPlainTest {
    private static final int RUNS = 240;
    // A last draw may make six calls more, and an object is used for at most 512.
    private static final int CALLS = 504;

    private final Random draw;
    private final FewestCauses x = new FewestCauses();
    private final Plain plain = new Plain();
    private final int run;
    private final int linksInHundred;
    private final int oddsUpTo;
    private int made;

    private AgainstPlainTest(int run) {
        this.run = run;
        draw = new Random(run);
        linksInHundred = 8 + 8 * (run % 6);
        oddsUpTo = run % 4 == 0 ? 1 : run % 4 == 1 ? 3 : 20;
    }

    public static void main(String[] args) {
        for (int run = 0; run < RUNS && !Due.tooManyWrong(); run++) {
            AgainstPlainTest one = new AgainstPlainTest(run);
            one.setUp();
            while (one.made < CALLS && !Due.tooManyWrong()) {
                one.call(one.draw.nextInt(100));
            }
        }
        Due.end();
    }

    private void setUp() {
        for (int c = 0; c < 10; c++) {
            cause(c, 1 + draw.nextInt(oddsUpTo), 1 + draw.nextInt(oddsUpTo));
        }
        for (int f = 0; f < 12; f++) {
            for (int c = 0; c < 10; c++) {
                if (draw.nextInt(100) < linksInHundred) {
                    link(f, c, draw.nextInt(3) == 0 ? 2 : 1);
                }
            }
        }
        for (int f = 0; f < 12; f++) {
            if (draw.nextInt(100) < 40) {
                tell(f, 1);
            }
        }
    }

    /** A number that is mostly below n, now and then a wrong one. */
    private int below(int n) {
        int kind = draw.nextInt(60);
        if (kind == 0) return -1 - draw.nextInt(3);
        if (kind == 1) return n + draw.nextInt(3);
        if (kind == 2) return draw.nextInt();
        return draw.nextInt(n);
    }

    private int number() {
        int all = plain.many(0);
        return below(Math.max(1, all));
    }

    private void call(int kind) {
        if (kind < 3) cause(below(10), 1 + below(oddsUpTo), 1 + below(20));
        else if (kind < 9) link(below(12), below(10), below(3));
        else if (kind < 14) ofCause(below(10), below(6));
        else if (kind < 19) ofFinding(below(12), below(5));
        else if (kind < 26) tell(below(12), draw.nextInt(4) == 0 ? 0 : below(2));
        else if (kind < 32) withdraw(below(12));
        else if (kind < 38) same("back()", x.back(), plain.back());
        else if (kind < 39) sometimesAnew();
        else if (kind < 45) explanation(number(), below(2));
        else if (kind < 49) weight(number());
        else if (kind < 54) share(number(), below(2));
        else if (kind < 61) needs(number(), below(10));
        else if (kind < 65) sets(below(3));
        else if (kind < 69) belief(below(10), below(2));
        else if (kind < 73) fewest(below(3));
        else if (kind < 78) covers(someSet());
        else if (kind < 80) same("unexplained()", x.unexplained(), plain.unexplained());
        else if (kind < 85) split(below(12), below(4));
        else if (kind < 88) same("next()", x.next(), plain.next());
        else if (kind < 92) would(below(12), below(3));
        else if (kind < 96) plan(draw.nextInt(3) == 0 ? below(12) : below(3), below(3));
        else many(below(6));
    }

    private void sometimesAnew() {
        if (draw.nextInt(4) == 0) {
            same("anew()", x.anew(), plain.anew());
        } else {
            wholeList();
        }
    }

    private void wholeList() {
        int all = plain.many(0);
        for (int k = 0; k <= all && k < 6; k++) {
            explanation(k, 0);
        }
    }

    private int someSet() {
        int kind = draw.nextInt(3);
        int known = plain.explanation(0, 0);
        if (kind == 0 || known < 0) return below(1024);
        return kind == 1 ? known : known ^ 1 << draw.nextInt(10);
    }

    private void same(String call, long got, long want) {
        made++;
        Due.is("run " + run + ": " + call, got, want);
    }

    private static String told(String name, int... args) {
        StringBuilder s = new StringBuilder(name).append('(');
        for (int i = 0; i < args.length; i++) {
            s.append(i == 0 ? "" : ", ").append(args[i]);
        }
        return s.append(')').toString();
    }

    private void cause(int c, int a, int b) {
        same(told("cause", c, a, b), x.cause(c, a, b), plain.cause(c, a, b));
    }

    private void link(int f, int c, int how) {
        same(told("link", f, c, how), x.link(f, c, how), plain.link(f, c, how));
    }

    private void ofCause(int c, int what) {
        same(told("ofCause", c, what), x.ofCause(c, what), plain.ofCause(c, what));
    }

    private void ofFinding(int f, int what) {
        same(told("ofFinding", f, what), x.ofFinding(f, what), plain.ofFinding(f, what));
    }

    private void tell(int f, int is) {
        same(told("tell", f, is), x.tell(f, is), plain.tell(f, is));
    }

    private void withdraw(int f) {
        same(told("withdraw", f), x.withdraw(f), plain.withdraw(f));
    }

    private void explanation(int k, int what) {
        same(told("explanation", k, what), x.explanation(k, what), plain.explanation(k, what));
    }

    private void weight(int k) {
        same(told("weight", k), x.weight(k), plain.weight(k));
    }

    private void share(int k, int which) {
        same(told("share", k, which), x.share(k, which), plain.share(k, which));
    }

    private void needs(int k, int c) {
        same(told("needs", k, c), x.needs(k, c), plain.needs(k, c));
    }

    private void sets(int what) {
        same(told("sets", what), x.sets(what), plain.sets(what));
    }

    private void belief(int c, int which) {
        same(told("belief", c, which), x.belief(c, which), plain.belief(c, which));
    }

    private void fewest(int what) {
        same(told("fewest", what), x.fewest(what), plain.fewest(what));
    }

    private void covers(int set) {
        same(told("covers", set), x.covers(set), plain.covers(set));
    }

    private void split(int f, int what) {
        same(told("split", f, what), x.split(f, what), plain.split(f, what));
    }

    private void would(int f, int is) {
        same(told("would", f, is), x.would(f, is), plain.would(f, is));
    }

    private void plan(int k, int what) {
        same(told("plan", k, what), x.plan(k, what), plain.plan(k, what));
    }

    private void many(int what) {
        same(told("many", what), x.many(what), plain.many(what));
    }
}
