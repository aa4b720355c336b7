import java.math.BigInteger;
import java.util.ArrayDeque;
import java.util.ArrayList;
import java.util.Arrays;
import java.util.Comparator;
import java.util.Deque;
import java.util.List;

/** The document's words put down one by one, with no care for speed: what the class is held against. */
final class Plain {
    static final int UNKNOWN = -1, OUTSIDE = -2, STATE = -3, NONE = -9;
    static final long LOST = Long.MIN_VALUE;

    private final int[] a = new int[10];
    private final int[] b = new int[10];
    private final int[][] links = new int[12][10];
    private final int[] is = new int[12];
    private final Deque<int[]> done = new ArrayDeque<>();

    Plain() {
        Arrays.fill(a, 1);
        Arrays.fill(b, 1);
    }

    // ---- what the terms say

    private boolean excluded(int c, int[] told) {
        for (int f = 0; f < 12; f++) {
            if (told[f] == 2 && links[f][c] == 2) {
                return true;
            }
        }
        return false;
    }

    private static boolean in(int set, int k) {
        return (set & 1 << k) != 0;
    }

    private boolean linked(int set, int f) {
        for (int c = 0; c < 10; c++) {
            if (in(set, c) && links[f][c] != 0) {
                return true;
            }
        }
        return false;
    }

    private boolean coversBy(int set, int[] told) {
        for (int c = 0; c < 10; c++) {
            if (in(set, c) && excluded(c, told)) {
                return false;
            }
        }
        for (int f = 0; f < 12; f++) {
            if (told[f] == 1 && !linked(set, f)) {
                return false;
            }
        }
        return true;
    }

    private long weightOf(int set) {
        long w = 1;
        for (int c = 0; c < 10; c++) {
            w *= in(set, c) ? a[c] : b[c];
        }
        return w;
    }

    private List<Integer> explanations(int[] told) {
        boolean[] covers = new boolean[1024];
        for (int set = 0; set < 1024; set++) {
            covers[set] = coversBy(set, told);
        }
        List<Integer> all = new ArrayList<>();
        for (int set = 0; set < 1024; set++) {
            boolean smallest = covers[set];
            for (int less = 0; less < set && smallest; less++) {
                if ((less & set) == less && covers[less]) {
                    smallest = false;
                }
            }
            if (smallest) {
                all.add(set);
            }
        }
        all.sort(Comparator.comparingLong((Integer s) -> -weightOf(s))
                .thenComparingInt(Integer::bitCount).thenComparingInt(s -> s));
        return all;
    }

    /** 0 OPEN, 1 THERE, 2 ABSENT. */
    private int foretells(int set, int f) {
        for (int c = 0; c < 10; c++) {
            if (in(set, c) && links[f][c] == 2) {
                return 1;
            }
        }
        return linked(set, f) ? 0 : 2;
    }

    private long together(List<Integer> all, int f, int foretold) {
        long sum = 0;
        for (int set : all) {
            if (foretells(set, f) == foretold) {
                sum += weightOf(set);
            }
        }
        return sum;
    }

    private long left(List<Integer> all, int f, int state) {
        return together(all, f, state) + together(all, f, 0);
    }

    private int nextOf(int[] told) {
        List<Integer> all = explanations(told);
        int best = NONE;
        long least = Long.MAX_VALUE;
        for (int f = 0; f < 12 && all.size() >= 2; f++) {
            long worst = Math.max(left(all, f, 1), left(all, f, 2));
            if (told[f] == 0 && worst < least) {
                least = worst;
                best = f;
            }
        }
        return best;
    }

    private List<int[]> steps() {
        List<int[]> steps = new ArrayList<>();
        int[] told = is.clone();
        for (int f = nextOf(told); f != NONE; f = nextOf(told)) {
            List<Integer> all = explanations(told);
            boolean there = left(all, f, 1) >= left(all, f, 2);
            told[f] = there ? 1 : 2;
            steps.add(new int[] {f, there ? 1 : 0, explanations(told).size()});
        }
        return steps;
    }

    private static long fraction(long upper, long lower, int which) {
        BigInteger u = BigInteger.valueOf(upper);
        BigInteger l = BigInteger.valueOf(lower);
        return (which == 0 ? u : l).divide(u.gcd(l)).longValueExact();
    }

    private long weightOfAll(List<Integer> all) {
        return all.stream().mapToLong(this::weightOf).sum();
    }

    private int count(int state) {
        return (int) Arrays.stream(is).filter(s -> s == state).count();
    }

    private static boolean cause(int c) {
        return 0 <= c && c <= 9;
    }

    private static boolean finding(int f) {
        return 0 <= f && f <= 11;
    }

    private static boolean odds(int n) {
        return 1 <= n && n <= 20;
    }

    private int put(int f, int state) {
        done.addLast(new int[] {f, is[f]});
        if (done.size() > 20) {
            done.removeFirst();
        }
        is[f] = state;
        return explanations(is).size();
    }

    // ---- the calls

    int cause(int c, int forIt, int against) {
        if (!cause(c)) return UNKNOWN;
        if (!odds(forIt) || !odds(against)) return OUTSIDE;
        a[c] = forIt;
        b[c] = against;
        return 1;
    }

    int link(int f, int c, int how) {
        if (!finding(f) || !cause(c)) return UNKNOWN;
        if (how < 0 || how > 2) return OUTSIDE;
        int was = links[f][c];
        links[f][c] = how;
        return was;
    }

    int ofCause(int c, int what) {
        if (!cause(c)) return UNKNOWN;
        if (what < 0 || what > 5) return OUTSIDE;
        int linked = 0, must = 0;
        for (int f = 0; f < 12; f++) {
            if (links[f][c] != 0) linked |= 1 << f;
            if (links[f][c] == 2) must |= 1 << f;
        }
        if (what == 5) return (int) explanations(is).stream().filter(s -> in(s, c)).count();
        return new int[] {a[c], b[c], linked, must, excluded(c, is) ? 1 : 0}[what];
    }

    int ofFinding(int f, int what) {
        if (!finding(f)) return UNKNOWN;
        if (what < 0 || what > 4) return OUTSIDE;
        int linked = 0, must = 0;
        for (int c = 0; c < 10; c++) {
            if (links[f][c] != 0) linked |= 1 << c;
            if (links[f][c] == 2) must |= 1 << c;
        }
        if (what >= 3) {
            return (int) explanations(is).stream().filter(s -> foretells(s, f) == what - 2).count();
        }
        return new int[] {is[f], linked, must}[what];
    }

    int tell(int f, int there) {
        if (!finding(f)) return UNKNOWN;
        if (there < 0 || there > 1) return OUTSIDE;
        return put(f, there == 1 ? 1 : 2);
    }

    int withdraw(int f) {
        if (!finding(f)) return UNKNOWN;
        if (is[f] == 0) return STATE;
        return put(f, 0);
    }

    int back() {
        if (done.isEmpty()) return STATE;
        int[] last = done.removeLast();
        is[last[0]] = last[1];
        return explanations(is).size();
    }

    int anew() {
        int were = 12 - count(0);
        Arrays.fill(is, 0);
        done.clear();
        return were;
    }

    int explanation(int k, int what) {
        List<Integer> all = explanations(is);
        if (k < 0 || k >= all.size()) return UNKNOWN;
        if (what < 0 || what > 1) return OUTSIDE;
        return what == 0 ? all.get(k) : Integer.bitCount(all.get(k));
    }

    long weight(int k) {
        List<Integer> all = explanations(is);
        return k < 0 || k >= all.size() ? LOST : weightOf(all.get(k));
    }

    long share(int k, int which) {
        List<Integer> all = explanations(is);
        if (k < 0 || k >= all.size() || which < 0 || which > 1) return LOST;
        return fraction(weightOf(all.get(k)), weightOfAll(all), which);
    }

    int needs(int k, int c) {
        List<Integer> all = explanations(is);
        if (k < 0 || k >= all.size() || !cause(c)) return UNKNOWN;
        int set = all.get(k);
        if (!in(set, c)) return NONE;
        int needs = 0;
        for (int f = 0; f < 12; f++) {
            if (is[f] == 1 && !linked(set & ~(1 << c), f)) needs |= 1 << f;
        }
        return needs;
    }

    int sets(int what) {
        if (what < 0 || what > 2) return OUTSIDE;
        int all = 1023, any = 0, excluded = 0;
        for (int set : explanations(is)) {
            all &= set;
            any |= set;
        }
        for (int c = 0; c < 10; c++) {
            if (excluded(c, is)) excluded |= 1 << c;
        }
        return new int[] {all, any, excluded}[what];
    }

    long belief(int c, int which) {
        List<Integer> all = explanations(is);
        if (!cause(c) || which < 0 || which > 1 || all.isEmpty()) return LOST;
        long with = all.stream().filter(s -> in(s, c)).mapToLong(this::weightOf).sum();
        return fraction(with, weightOfAll(all), which);
    }

    int fewest(int what) {
        if (what < 0 || what > 2) return OUTSIDE;
        int[] lengths = explanations(is).stream().mapToInt(Integer::bitCount).sorted().toArray();
        if (lengths.length == 0) return NONE;
        if (what == 2) return (int) Arrays.stream(lengths).filter(n -> n == lengths[0]).count();
        return what == 0 ? lengths[0] : lengths[lengths.length - 1];
    }

    int covers(int set) {
        if (set < 0 || set > 1023) return OUTSIDE;
        return explanations(is).contains(set) ? 2 : coversBy(set, is) ? 1 : 0;
    }

    int unexplained() {
        int set = 0;
        for (int f = 0; f < 12; f++) {
            boolean has = false;
            for (int c = 0; c < 10; c++) {
                has |= links[f][c] != 0 && !excluded(c, is);
            }
            if (is[f] == 1 && !has) set |= 1 << f;
        }
        return set;
    }

    long split(int f, int what) {
        if (!finding(f) || what < 0 || what > 3 || is[f] != 0) return LOST;
        List<Integer> all = explanations(is);
        if (what == 3) return Math.max(left(all, f, 1), left(all, f, 2));
        return together(all, f, new int[] {1, 2, 0}[what]);
    }

    int next() {
        return nextOf(is);
    }

    int would(int f, int state) {
        if (!finding(f)) return UNKNOWN;
        if (state < 0 || state > 2) return OUTSIDE;
        int[] told = is.clone();
        told[f] = new int[] {2, 1, 0}[state];
        return explanations(told).size();
    }

    int plan(int k, int what) {
        if (k < 0 || k > 11 || what < 0 || what > 2) return OUTSIDE;
        List<int[]> steps = steps();
        return k < steps.size() ? steps.get(k)[what] : NONE;
    }

    int many(int what) {
        if (what < 0 || what > 5) return OUTSIDE;
        int count = 0;
        for (int[] row : links) {
            count += (int) Arrays.stream(row).filter(h -> h != 0).count();
        }
        switch (what) {
            case 0: return explanations(is).size();
            case 1: return count(1);
            case 2: return count(2);
            case 3: return count;
            case 4: return done.size();
            default: return steps().size();
        }
    }
}
