/** The boundary cases of promises 19 to 23 (what to ask) and of part 2 of the terms. */
public final class AskingEdgesTest {
    private static final int UNKNOWN = Edges.UNKNOWN, OUTSIDE = Edges.OUTSIDE, NONE = Edges.NONE;
    private static final long LOST = Edges.LOST;
    // 20 to the tenth: what ten odds of 20 make.
    private static final long GREATEST = 10_240_000_000_000L;

    public static void main(String[] args) throws Exception {
        Edges.runAll(AskingEdgesTest.class);
    }

    // ---- 19 split

    private static void split(FewestCauses x, int f, long there, long absent, long open, long worst) {
        Due.is("split(" + f + ", 0)", x.split(f, 0), there);
        Due.is("split(" + f + ", 1)", x.split(f, 1), absent);
        Due.is("split(" + f + ", 2)", x.split(f, 2), open);
        Due.is("split(" + f + ", 3)", x.split(f, 3), worst);
    }

    @Edge("Promise 19, Terms 2: FORETOLD as THERE by some, as ABSENT by others; WORST: the greater")
    static void splitInTwo() {
        FewestCauses x = Bench.twoWays();
        split(x, 2, 15, 48, 0, 48);
        x.link(3, 1, 2);
        split(x, 3, 48, 15, 0, 48);
    }

    @Edge("Promise 19, Terms 2: what is left OPEN counts on either side of WORST")
    static void splitWithOpen() {
        FewestCauses x = Bench.twoWays();
        x.link(4, 0, 1);
        split(x, 4, 0, 48, 15, 63);
        x.link(4, 1, 2);
        split(x, 4, 48, 0, 15, 63);
        x.link(5, 7, 1);
        x.link(0, 7, 1);
        x.link(1, 7, 1);
        // {7} is a third, and weighs 4 * 5 * 6 = 120.
        split(x, 5, 0, 63, 120, 183);
        split(x, 4, 48, 120, 15, 135);
    }

    @Edge("Promise 19, Terms 2: WORST, both answers alike")
    static void splitInHalves() {
        FewestCauses x = Bench.twoCauses();
        x.link(1, 0, 2);
        split(x, 1, 1, 1, 0, 1);
    }

    @Edge("Promise 19: all FORETELL it as THERE, all as ABSENT, all leave it OPEN")
    static void splitOfAllOneWay() {
        FewestCauses x = Bench.twoCauses();
        x.cause(0, 5, 1);
        split(x, 11, 0, 6, 0, 6);
        x.link(11, 0, 1);
        x.link(11, 1, 1);
        split(x, 11, 0, 0, 6, 6);
        x.link(11, 0, 2);
        x.link(11, 1, 2);
        split(x, 11, 6, 0, 0, 6);
    }

    @Edge("Promise 19, Terms 2: a CAUSE that MUST beside one that MAY in one EXPLANATION: THERE")
    static void splitWithMustAndMay() {
        FewestCauses x = Bench.allNeeded();
        x.link(11, 0, 1);
        x.link(11, 9, 2);
        split(x, 11, 1, 0, 0, 1);
        x.link(11, 0, 2);
        x.link(11, 9, 1);
        split(x, 11, 1, 0, 0, 1);
    }

    @Edge("Promise 19: of the empty set: all is FORETOLD as ABSENT")
    static void splitOfTheEmptySet() {
        FewestCauses x = Bench.small();
        for (int f = 0; f < 12; f++) {
            split(x, f, 0, 120, 0, 120);
        }
    }

    @Edge("Promise 19: there is no EXPLANATION: 0 each, and no refusal")
    static void splitIfThereIsNone() {
        FewestCauses x = Bench.hopeless();
        split(x, 2, 0, 0, 0, 0);
        split(x, 10, 0, 0, 0, 0);
    }

    @Edge("Promise 19: the greatest WEIGHTS together")
    static void splitOfTheGreatestWeights() {
        FewestCauses x = Bench.anyOne();
        for (int c = 0; c < 10; c++) {
            x.cause(c, 20, 20);
        }
        split(x, 1, 0, 10 * GREATEST, 0, 10 * GREATEST);
        x.link(1, 3, 2);
        x.link(1, 4, 1);
        split(x, 1, GREATEST, 8 * GREATEST, GREATEST, 9 * GREATEST);
    }

    @Edge("Promise 19: LOST: UNKNOWN: no such FINDING")
    static void splitOfNoFinding() {
        FewestCauses x = Bench.twoWays();
        for (int f : Edges.outside(0, 11)) {
            Due.is("split(" + f + ", 0)", x.split(f, 0), LOST);
            Due.is("split(" + f + ", 3)", x.split(f, 3), LOST);
        }
    }

    @Edge("Promise 19: LOST: OUTSIDE: what is not 0 .. 3")
    static void splitOutside() {
        FewestCauses x = Bench.twoWays();
        for (int what : Edges.outside(0, 3)) {
            Due.is("split(2, " + what + ")", x.split(2, what), LOST);
        }
    }

    @Edge("Promise 19: LOST: STATE: it is not UNASKED: THERE, ABSENT; not so when withdrawn")
    static void splitOfATold() {
        FewestCauses x = Bench.twoWays();
        x.tell(11, 0);
        for (int what = 0; what < 4; what++) {
            Due.is("split(0, " + what + "), THERE", x.split(0, what), LOST);
            Due.is("split(11, " + what + "), ABSENT", x.split(11, what), LOST);
        }
        x.withdraw(11);
        split(x, 11, 0, 63, 0, 63);
    }

    // ---- 20 next

    @Edge("Promise 20, Terms 2: none, if there are fewer than two EXPLANATIONS: none, one; two are enough")
    static void nextOfFewerThanTwo() {
        FewestCauses x = Bench.hopeless();
        Due.is("none", x.next(), NONE);
        x.back();
        Due.is("two", x.next(), 2);
        x.tell(2, 0);
        Due.is("one", x.next(), NONE);
    }

    @Edge("Promise 20, Terms 2: none, if no FINDING is UNASKED, though there are two EXPLANATIONS")
    static void nextOfNoneUnasked() {
        FewestCauses x = Bench.twoCauses();
        for (int f = 1; f < 12; f++) {
            Due.is("ahead of " + f, x.next(), f);
            x.tell(f, 0);
        }
        Due.is("two still", x.many(0), 2);
        Due.is("all are asked", x.next(), NONE);
        x.withdraw(7);
        Due.is("one is not", x.next(), 7);
    }

    @Edge("Promise 20, Terms 2: the one UNASKED FINDING, first or last, though nothing comes of it")
    static void nextOfTheOnlyUnasked() {
        FewestCauses x = new FewestCauses();
        x.link(5, 0, 1);
        x.link(5, 1, 1);
        x.tell(5, 1);
        for (int f = 1; f < 12; f++) {
            if (f != 5) {
                x.tell(f, 0);
            }
        }
        Due.is("the first", x.next(), 0);
        x.tell(0, 0);
        x.withdraw(11);
        Due.is("the last", x.next(), 11);
    }

    @Edge("Promise 20, Terms 2: of several the least")
    static void nextOfSeveral() {
        FewestCauses x = new FewestCauses();
        x.link(5, 0, 1);
        x.link(5, 1, 1);
        x.tell(5, 1);
        Due.is("all alike", x.next(), 0);
        x.link(11, 0, 2);
        Due.is("the last is better", x.next(), 11);
        x.link(7, 1, 2);
        Due.is("7 is as good", x.next(), 7);
        x.link(0, 0, 2);
        Due.is("0 is as good", x.next(), 0);
        x.tell(0, 1);
        x.link(0, 1, 2);
        Due.is("0 is told", x.next(), 7);
    }

    @Edge("Promise 20, Terms 2: the least WORST, though by 1")
    static void nextByOne() {
        FewestCauses x = new FewestCauses();
        for (int c = 0; c < 5; c++) {
            x.link(0, c, 1);
            x.cause(c, c + 1, 1);
        }
        x.tell(0, 1);
        // {0} .. {4} weigh 1 .. 5, 15 in all: 5 and 4 leave 9, 5 and 3 leave 8.
        x.link(3, 4, 2);
        x.link(3, 3, 2);
        Due.is("9 or 6", x.split(3, 3), 9);
        Due.is("3", x.next(), 3);
        x.link(9, 4, 2);
        x.link(9, 2, 2);
        Due.is("8 or 7", x.split(9, 3), 8);
        Due.is("9", x.next(), 9);
    }

    @Edge("Promise 20, Terms 2: WORST beyond an int")
    static void nextByLargeWeights() {
        FewestCauses x = Bench.anyOne();
        for (int c = 0; c < 10; c++) {
            x.cause(c, 20, 20);
        }
        Due.is("all alike", x.next(), 1);
        x.link(11, 0, 2);
        Due.is("nine are left at worst", x.next(), 11);
        x.link(10, 0, 2);
        x.link(10, 1, 2);
        Due.is("eight are left at worst", x.next(), 10);
    }

    @Edge("Promise 20, Terms 2: EXPLANATIONS that leave it OPEN are left either way")
    static void nextWithOpen() {
        FewestCauses x = Bench.twoCauses();
        x.link(1, 0, 1);
        x.link(2, 0, 2);
        Due.is("OPEN leaves 2, MUST leaves 1", x.next(), 2);
        x.link(2, 1, 1);
        Due.is("all leave 2 now", x.next(), 1);
    }

    // ---- 21 would

    @Edge("Promise 21: THERE (is 1), ABSENT (0), UNASKED (2), from each that it may be")
    static void wouldFromEachToEach() {
        int[] due = {1, 2, 1};
        for (int was = 0; was <= 2; was++) {
            FewestCauses x = new FewestCauses();
            x.link(11, 8, 1);
            x.link(11, 9, 2);
            if (was != 0) {
                x.tell(11, was == 1 ? 1 : 0);
            }
            for (int is = 0; is <= 2; is++) {
                Due.is("from " + was + ", would(11, " + is + ")", x.would(11, is), due[is]);
            }
            Due.is("it stays", x.ofFinding(11, 0), was);
        }
    }

    @Edge("Promise 21: ABSENT excludes, UNASKED and THERE do not")
    static void wouldExclude() {
        FewestCauses x = Bench.anyOne();
        x.link(1, 0, 2);
        x.link(1, 9, 2);
        Due.is("would(1, 0)", x.would(1, 0), 8);
        Due.is("would(1, 1)", x.would(1, 1), 2);
        Due.is("would(1, 2)", x.would(1, 2), 10);
        x.tell(1, 0);
        Due.is("told, would(1, 2)", x.would(1, 2), 10);
        Due.is("told, would(1, 0)", x.would(1, 0), 8);
    }

    @Edge("Promise 21: how many: none; and the empty set")
    static void wouldBeNone() {
        FewestCauses x = Bench.twoCauses();
        Due.is("would(11, 1)", x.would(11, 1), 0);
        Due.is("would(0, 2)", x.would(0, 2), 1);
        Due.is("would(0, 0)", x.would(0, 0), 1);
        FewestCauses y = Bench.hopeless();
        Due.is("would(0, 2), none still", y.would(0, 2), 0);
        Due.is("would(11, 2)", y.would(11, 2), 2);
    }

    @Edge("Promise 21: how many: the long list")
    static void wouldBeMany() {
        FewestCauses x = Bench.longList();
        Due.is("would(11, 1)", x.would(11, 1), 109);
        int before = x.back();
        Due.is("would(11, 1), UNASKED", x.would(11, 1), 109);
        Due.is("would(11, 2)", x.would(11, 2), before);
    }

    @Edge("Promise 21: nothing is changed, nor is the PLAN")
    static void wouldChangesNothing() {
        FewestCauses x = Bench.twoWays();
        x.plan(0, 0);
        for (int f = 0; f < 12; f++) {
            for (int is = 0; is <= 2; is++) {
                x.would(f, is);
            }
        }
        Answers.same("would", x, Bench.twoWays());
    }

    @Edge("Promise 21: as tell() and withdraw() answer then")
    static void wouldIsWhatTellAnswers() {
        for (int f = 0; f < 12; f++) {
            FewestCauses x = Bench.twoWays();
            int there = x.would(f, 1);
            int absent = x.would(f, 0);
            int unasked = x.would(f, 2);
            Due.is("tell(" + f + ", 1)", x.tell(f, 1), there);
            Due.is("tell(" + f + ", 0)", x.tell(f, 0), absent);
            Due.is("withdraw(" + f + ")", x.withdraw(f), unasked);
        }
    }

    @Edge("Promise 21: UNKNOWN: no such FINDING")
    static void wouldOfNoFinding() {
        FewestCauses x = Bench.twoWays();
        for (int f : Edges.outside(0, 11)) {
            for (int is = 0; is <= 2; is++) {
                Due.is("would(" + f + ", " + is + ")", x.would(f, is), UNKNOWN);
            }
        }
    }

    @Edge("Promise 21: OUTSIDE: is is not 0, 1, 2")
    static void wouldOutside() {
        FewestCauses x = Bench.twoWays();
        for (int is : Edges.outside(0, 2)) {
            Due.is("would(0, " + is + ")", x.would(0, is), OUTSIDE);
            Due.is("would(11, " + is + ")", x.would(11, is), OUTSIDE);
        }
    }

    // ---- 22 plan

    private static void step(FewestCauses x, int k, int finding, int there, int left) {
        Due.is("plan(" + k + ", 0)", x.plan(k, 0), finding);
        Due.is("plan(" + k + ", 1)", x.plan(k, 1), there);
        Due.is("plan(" + k + ", 2)", x.plan(k, 2), left);
    }

    private static void noStepFrom(FewestCauses x, int k) {
        for (int i = k; i < 12; i++) {
            step(x, i, NONE, NONE, NONE);
        }
        Due.is("steps", x.many(5), k);
    }

    @Edge("Promise 22: NONE: there are not so many: no step, with one EXPLANATION")
    static void planOfOneExplanation() {
        noStepFrom(new FewestCauses(), 0);
        noStepFrom(Bench.allNeeded(), 0);
    }

    @Edge("Promise 22: NONE: there are not so many: no step, with no EXPLANATION")
    static void planOfNoExplanation() {
        noStepFrom(Bench.hopeless(), 0);
    }

    @Edge("Promise 22: NONE: there are not so many: no step, with no FINDING UNASKED")
    static void planOfNoneUnasked() {
        FewestCauses x = Bench.twoCauses();
        for (int f = 1; f < 12; f++) {
            x.tell(f, 0);
        }
        Due.is("two EXPLANATIONS", x.many(0), 2);
        noStepFrom(x, 0);
    }

    @Edge("Promise 22: one step, then NONE")
    static void planOfOneStep() {
        FewestCauses x = Bench.twoWays();
        // Finding 2: 15 THERE, 48 ABSENT.
        step(x, 0, 2, 0, 1);
        noStepFrom(x, 1);
    }

    @Edge("Promise 22: eleven steps, the most: plan(10) is the last, plan(11) is NONE")
    static void planOfElevenSteps() {
        FewestCauses x = Bench.twoCauses();
        for (int k = 0; k < 11; k++) {
            step(x, k, k + 1, 0, 2);
        }
        noStepFrom(x, 11);
    }

    @Edge("Promise 22: the first FINDING in a step, and the last")
    static void planOfFirstAndLast() {
        FewestCauses x = new FewestCauses();
        x.link(5, 0, 1);
        x.link(5, 1, 1);
        x.link(11, 0, 2);
        x.tell(5, 1);
        step(x, 0, 11, 1, 1);
        noStepFrom(x, 1);
        x.link(0, 0, 2);
        step(x, 0, 0, 1, 1);
        noStepFrom(x, 1);
    }

    @Edge("Promise 22, Terms 2: THERE, if what is left then is no less: alike")
    static void planTakesThereIfAlike() {
        FewestCauses x = Bench.twoCauses();
        x.link(3, 0, 2);
        step(x, 0, 3, 1, 1);
        noStepFrom(x, 1);
    }

    @Edge("Promise 22, Terms 2: else ABSENT: less by 1; THERE: more by 1")
    static void planTakesAbsentIfLess() {
        FewestCauses x = Bench.twoCauses();
        x.link(3, 0, 2);
        x.cause(0, 19, 1);
        x.cause(1, 20, 1);
        step(x, 0, 3, 0, 1);
        noStepFrom(x, 1);
        x.cause(1, 18, 1);
        step(x, 0, 3, 1, 1);
        noStepFrom(x, 1);
    }

    @Edge("Promise 22, Terms 2: all OPEN is left either way: THERE")
    static void planTakesThereIfAllOpen() {
        FewestCauses x = Bench.twoCauses();
        for (int f = 1; f < 12; f++) {
            x.link(f, 0, 1);
            x.link(f, 1, 1);
        }
        for (int k = 0; k < 11; k++) {
            step(x, k, k + 1, 1, 2);
        }
        noStepFrom(x, 11);
    }

    @Edge("Promise 22, Terms 2: with EXPLANATIONS anew by that: THERE brings others into play")
    static void planGoesByExplanationsAnew() {
        FewestCauses x = Bench.twoCauses();
        x.link(1, 0, 2);
        x.link(1, 5, 1);
        x.link(1, 6, 1);
        // THERE brings {1, 5} and {1, 6} beside {0}; then nothing tells them apart.
        step(x, 0, 1, 1, 3);
        for (int k = 1; k < 11; k++) {
            step(x, k, k + 1, 0, 3);
        }
        noStepFrom(x, 11);
    }

    @Edge("Promise 22, Terms 2: ABSENT excludes, by that a later FINDING is left aside")
    static void planGoesByExclusionsAnew() {
        FewestCauses x = Bench.anyOne();
        for (int c = 0; c < 4; c++) {
            x.link(1, c, 2);
        }
        for (int c = 4; c < 7; c++) {
            x.link(2, c, 2);
        }
        // 4 or 6 by finding 1: ABSENT; of {4} .. {9} finding 2 tells 3 from 3: THERE.
        step(x, 0, 1, 0, 6);
        step(x, 1, 2, 1, 3);
        step(x, 2, 3, 0, 3);
        step(x, 10, 11, 0, 3);
        noStepFrom(x, 11);
    }

    @Edge("Promise 22: on paper alone")
    static void planIsOnPaperAlone() {
        FewestCauses x = Bench.twoCauses();
        for (int k = 0; k < 12; k++) {
            x.plan(k, 0);
        }
        Answers.same("plan", x, Bench.twoCauses());
    }

    @Edge("Promise 22: from the FINDINGS as they are told: each change is followed")
    static void planFollowsEachChange() {
        FewestCauses x = Bench.twoWays();
        step(x, 0, 2, 0, 1);
        x.cause(2, 6, 1);
        // {1} weighs 4 * 2 * 1 = 8, {0, 2} weighs 3 * 5 * 6 = 90 now: THERE, and {0, 1} comes in.
        step(x, 0, 2, 1, 2);
        x.cause(2, 1, 6);
        step(x, 0, 2, 0, 1);
        x.link(2, 0, 0);
        Due.is("after link", x.plan(0, 0), 2);
        Due.is("eleven less one", x.many(5), 10);
        x.link(2, 0, 2);
        x.tell(2, 0);
        Due.is("after tell", x.plan(0, 0), NONE);
        x.withdraw(2);
        step(x, 0, 2, 0, 1);
        x.back();
        Due.is("after back", x.plan(0, 0), NONE);
        x.anew();
        Due.is("after anew", x.many(5), 0);
    }

    @Edge("Promise 22: when its steps are told, the rest of the PLAN is as it was")
    static void planIsWalked() {
        FewestCauses x = Bench.anyOne();
        for (int c = 0; c < 10; c++) {
            for (int f = 1; f < 5; f++) {
                if ((c >> (f - 1) & 1) != 0) {
                    x.link(f, c, 2);
                }
            }
            x.cause(c, 1 + c, 2);
        }
        int steps = x.many(5);
        int[][] plan = new int[12][3];
        for (int k = 0; k < 12; k++) {
            for (int what = 0; what < 3; what++) {
                plan[k][what] = x.plan(k, what);
            }
        }
        Due.holds("there are steps", steps >= 3);
        for (int k = 0; k < steps; k++) {
            Due.is("next() at step " + k, x.next(), plan[k][0]);
            Due.is("steps left at " + k, x.many(5), steps - k);
            Due.is("tell at step " + k, x.tell(plan[k][0], plan[k][1]), plan[k][2]);
        }
        Due.is("no next", x.next(), NONE);
        Due.is("no step", x.many(5), 0);
    }

    @Edge("Promise 22: OUTSIDE: k is not 0 .. 11")
    static void planOfNoStep() {
        FewestCauses x = Bench.twoCauses();
        for (int k : Edges.outside(0, 11)) {
            for (int what = 0; what < 3; what++) {
                Due.is("plan(" + k + ", " + what + ")", x.plan(k, what), OUTSIDE);
            }
        }
    }

    @Edge("Promise 22: OUTSIDE: what is not 0, 1, 2")
    static void planOutside() {
        FewestCauses x = Bench.twoCauses();
        for (int what : Edges.outside(0, 2)) {
            Due.is("plan(0, " + what + ")", x.plan(0, what), OUTSIDE);
            Due.is("plan(10, " + what + ")", x.plan(10, what), OUTSIDE);
        }
    }

    @Edge("Promise 22: OUTSIDE ahead of NONE")
    static void planOutsideWhereThereIsNoStep() {
        FewestCauses x = new FewestCauses();
        Due.is("plan(0, 3)", x.plan(0, 3), OUTSIDE);
        Due.is("plan(0, -1)", x.plan(0, -1), OUTSIDE);
        Due.is("plan(11, 3)", x.plan(11, 3), OUTSIDE);
        Due.is("plan(12, 0)", x.plan(12, 0), OUTSIDE);
        Due.is("plan(-1, 0)", x.plan(-1, 0), OUTSIDE);
    }

    // ---- 23 many

    @Edge("Promise 23: OUTSIDE: what is not 0 .. 5")
    static void manyOutside() {
        FewestCauses x = Bench.twoWays();
        for (int what : Edges.outside(0, 5)) {
            Due.is("many(" + what + ")", x.many(what), OUTSIDE);
        }
    }

    @Edge("Promise 23: 0 EXPLANATIONS: none, one, many")
    static void manyExplanations() {
        Due.is("none", Bench.hopeless().many(0), 0);
        Due.is("one", Bench.small().many(0), 1);
        Due.is("two", Bench.twoWays().many(0), 2);
        Due.is("many", Bench.longList().many(0), 109);
    }

    @Edge("Promise 23: 1 THERE, 2 ABSENT: none, all twelve")
    static void manyToldFindings() {
        FewestCauses x = new FewestCauses();
        for (int f = 0; f < 12; f++) {
            x.tell(f, 1);
            Due.is("THERE", x.many(1), f + 1);
            Due.is("ABSENT", x.many(2), 0);
        }
        for (int f = 0; f < 12; f++) {
            x.tell(f, 0);
            Due.is("THERE", x.many(1), 11 - f);
            Due.is("ABSENT", x.many(2), f + 1);
        }
        for (int f = 0; f < 12; f++) {
            x.withdraw(f);
            Due.is("ABSENT", x.many(2), 11 - f);
        }
    }

    @Edge("Promise 23: 3 LINKS (MAY or MUST): none, all 120; one that is changed counts once")
    static void manyLinks() {
        FewestCauses x = new FewestCauses();
        Due.is("none", x.many(3), 0);
        for (int c = 0; c < 10; c++) {
            for (int f = 0; f < 12; f++) {
                x.link(f, c, 1 + (f + c) % 2);
            }
            Due.is("of " + (c + 1) + " CAUSES", x.many(3), 12 * (c + 1));
        }
        x.link(11, 9, 2);
        x.link(11, 9, 1);
        Due.is("changed", x.many(3), 120);
        x.link(11, 9, 0);
        Due.is("one less", x.many(3), 119);
        x.link(11, 9, 0);
        Due.is("not two less", x.many(3), 119);
    }

    @Edge("Promise 23: 4 what can be taken back: none, 20 at most")
    static void manyToTakeBack() {
        FewestCauses x = new FewestCauses();
        Due.is("none", x.many(4), 0);
        for (int i = 1; i <= 45; i++) {
            x.tell(i % 12, i % 2);
            Due.is("after " + i, x.many(4), Math.min(20, i));
        }
        x.back();
        Due.is("one less", x.many(4), 19);
    }

    @Edge("Promise 23: 5 steps of the PLAN: none, one, eleven")
    static void manySteps() {
        Due.is("none", new FewestCauses().many(5), 0);
        Due.is("one", Bench.twoWays().many(5), 1);
        Due.is("eleven", Bench.twoCauses().many(5), 11);
    }
}
