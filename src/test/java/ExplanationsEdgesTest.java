/** The boundary cases of promises 10 to 18 (explanations). */
public final class ExplanationsEdgesTest {
    private static final int UNKNOWN = Edges.UNKNOWN, OUTSIDE = Edges.OUTSIDE, NONE = Edges.NONE;
    private static final long LOST = Edges.LOST;
    // 20 to the tenth: what ten odds of 20 make.
    private static final long GREATEST = 10_240_000_000_000L;

    public static void main(String[] args) throws Exception {
        Edges.runAll(ExplanationsEdgesTest.class);
    }

    // ---- 10 explanation

    @Edge("Promise 10: the first EXPLANATION and the last, 0 the set, 1 how many")
    static void firstAndLastExplanation() {
        FewestCauses x = Bench.twoWays();
        Due.is("explanation(0, 0)", x.explanation(0, 0), 2);
        Due.is("explanation(0, 1)", x.explanation(0, 1), 1);
        Due.is("explanation(1, 0)", x.explanation(1, 0), 5);
        Due.is("explanation(1, 1)", x.explanation(1, 1), 2);
    }

    @Edge("Promise 10: the empty set and the set of all ten")
    static void emptyAndFullExplanation() {
        FewestCauses x = new FewestCauses();
        Due.is("the empty set", x.explanation(0, 0), 0);
        Due.is("of none", x.explanation(0, 1), 0);
        FewestCauses y = Bench.allNeeded();
        Due.is("the set of all", y.explanation(0, 0), 1023);
        Due.is("of ten", y.explanation(0, 1), 10);
        Due.is("alone", y.many(0), 1);
    }

    @Edge("Promise 10: UNKNOWN: there is no EXPLANATION k, below 0 or behind the last")
    static void noSuchExplanation() {
        FewestCauses x = Bench.twoWays();
        for (int k : Edges.outside(0, 1)) {
            Due.is("explanation(" + k + ", 0)", x.explanation(k, 0), UNKNOWN);
            Due.is("explanation(" + k + ", 1)", x.explanation(k, 1), UNKNOWN);
        }
    }

    @Edge("Promise 10: UNKNOWN: there is no EXPLANATION at all")
    static void noExplanationAtAll() {
        FewestCauses x = Bench.hopeless();
        Due.is("explanation(0, 0)", x.explanation(0, 0), UNKNOWN);
        Due.is("explanation(-1, 0)", x.explanation(-1, 0), UNKNOWN);
        Due.is("explanation(0, 2)", x.explanation(0, 2), UNKNOWN);
    }

    @Edge("Promise 10: UNKNOWN: it was one until another FINDING was told, and is again when that is taken back")
    static void noMoreExplanation() {
        FewestCauses x = Bench.twoWays();
        x.tell(2, 0);
        Due.is("gone", x.explanation(1, 0), UNKNOWN);
        x.back();
        Due.is("there again", x.explanation(1, 0), 5);
    }

    @Edge("Promise 10: OUTSIDE: what is not 0, 1")
    static void explanationOutside() {
        FewestCauses x = Bench.twoWays();
        for (int what : Edges.outside(0, 1)) {
            Due.is("explanation(1, " + what + ")", x.explanation(1, what), OUTSIDE);
        }
    }

    // ---- 11 weight

    @Edge("Promise 11: WEIGHT of the first and of the last; the least, 1")
    static void weightOfFirstAndLast() {
        FewestCauses x = Bench.twoWays();
        Due.is("weight(0)", x.weight(0), 48);
        Due.is("weight(1)", x.weight(1), 15);
        Due.is("of a new one", new FewestCauses().weight(0), 1);
    }

    @Edge("Promise 11: WEIGHT beyond an int")
    static void weightBeyondAnInt() {
        FewestCauses x = Bench.anyOne();
        for (int c = 0; c < 10; c++) {
            x.cause(c, 20, 20);
        }
        for (int k = 0; k < 10; k++) {
            Due.is("weight(" + k + ")", x.weight(k), GREATEST);
        }
    }

    @Edge("Promise 11: EXCLUDED CAUSES are among those not in it: their b counts")
    static void weightWithExcludedCauses() {
        FewestCauses x = Bench.small();
        x.tell(0, 0);
        Due.is("of the empty set", x.weight(0), 4 * 5 * 6);
    }

    @Edge("Promise 11: LOST: UNKNOWN: below 0, behind the last, none at all")
    static void weightLost() {
        FewestCauses x = Bench.twoWays();
        for (int k : Edges.outside(0, 1)) {
            Due.is("weight(" + k + ")", x.weight(k), LOST);
        }
        Due.is("none at all", Bench.hopeless().weight(0), LOST);
    }

    // ---- 12 share

    @Edge("Promise 12: upper number (which 0), lower (1)")
    static void shareUpperAndLower() {
        FewestCauses x = Bench.twoWays();
        Due.is("share(0, 0)", x.share(0, 0), 16);
        Due.is("share(0, 1)", x.share(0, 1), 21);
        Due.is("share(1, 0)", x.share(1, 0), 5);
        Due.is("share(1, 1)", x.share(1, 1), 21);
    }

    @Edge("Promise 12: SHARE of the one EXPLANATION: 1 by 1")
    static void shareOfTheOnlyOne() {
        FewestCauses x = Bench.small();
        Due.is("share(0, 0)", x.share(0, 0), 1);
        Due.is("share(0, 1)", x.share(0, 1), 1);
    }

    @Edge("Promise 12: SHARES of ten alike, at the greatest WEIGHTS: 1 by 10")
    static void sharesOfTenAlike() {
        FewestCauses x = Bench.anyOne();
        for (int c = 0; c < 10; c++) {
            x.cause(c, 20, 20);
        }
        for (int k = 0; k < 10; k++) {
            Due.is("share(" + k + ", 0)", x.share(k, 0), 1);
            Due.is("share(" + k + ", 1)", x.share(k, 1), 10);
        }
    }

    @Edge("Promise 12: LOST: UNKNOWN: below 0, behind the last, none at all")
    static void shareOfNone() {
        FewestCauses x = Bench.twoWays();
        for (int k : Edges.outside(0, 1)) {
            Due.is("share(" + k + ", 0)", x.share(k, 0), LOST);
            Due.is("share(" + k + ", 1)", x.share(k, 1), LOST);
        }
        Due.is("none at all, upper", Bench.hopeless().share(0, 0), LOST);
        Due.is("none at all, lower", Bench.hopeless().share(0, 1), LOST);
    }

    @Edge("Promise 12: LOST: OUTSIDE: which is not 0, 1")
    static void shareOutside() {
        FewestCauses x = Bench.twoWays();
        for (int which : Edges.outside(0, 1)) {
            Due.is("share(1, " + which + ")", x.share(1, which), LOST);
        }
    }

    // ---- 13 needs

    @Edge("Promise 13: NEEDS: FINDINGS that are THERE to which no other CAUSE of it has a LINK")
    static void needsWhatNoOtherHas() {
        FewestCauses x = Bench.twoWays();
        x.tell(2, 1);
        // {0, 1} weighs 36, {0, 2} weighs 15; finding 0 has links to 0 and 1 both.
        Due.is("{0, 1}", x.explanation(0, 0), 3);
        Due.is("needs(0, 0)", x.needs(0, 0), 4);
        Due.is("needs(0, 1)", x.needs(0, 1), 2);
        Due.is("{0, 2}", x.explanation(1, 0), 5);
        Due.is("needs(1, 0)", x.needs(1, 0), 5);
        Due.is("needs(1, 2)", x.needs(1, 2), 2);
    }

    @Edge("Promise 13: NEEDS: not FINDINGS that are UNASKED or ABSENT")
    static void needsOnlyWhatIsThere() {
        FewestCauses x = new FewestCauses();
        for (int f = 0; f < 12; f++) {
            x.link(f, 9, 1);
        }
        x.tell(11, 1);
        x.tell(0, 0);
        Due.is("11 alone", x.needs(0, 9), 2048);
        x.tell(0, 1);
        Due.is("0 too", x.needs(0, 9), 2049);
    }

    @Edge("Promise 13: NEEDS: CAUSES that are not in it do not count as others")
    static void needsBesideCausesNotInIt() {
        FewestCauses x = Bench.anyOne();
        for (int k = 0; k < 10; k++) {
            Due.is("needs(" + k + ", " + k + ")", x.needs(k, k), 1);
        }
    }

    @Edge("Promise 13: NEEDS of all twelve FINDINGS")
    static void needsOfAll() {
        FewestCauses x = new FewestCauses();
        for (int f = 0; f < 12; f++) {
            x.link(f, 0, 2);
            x.tell(f, 1);
        }
        Due.is("needs(0, 0)", x.needs(0, 0), 4095);
    }

    @Edge("Promise 13: NONE: it is not in it; in the empty set none is")
    static void needsNone() {
        FewestCauses x = Bench.twoWays();
        Due.is("needs(0, 0)", x.needs(0, 0), NONE);
        Due.is("needs(1, 1)", x.needs(1, 1), NONE);
        Due.is("needs(1, 9)", x.needs(1, 9), NONE);
        FewestCauses y = Bench.small();
        for (int c = 0; c < 10; c++) {
            Due.is("of the empty set, " + c, y.needs(0, c), NONE);
        }
    }

    @Edge("Promise 13: UNKNOWN: EXPLANATION")
    static void needsOfNoExplanation() {
        FewestCauses x = Bench.twoWays();
        for (int k : Edges.outside(0, 1)) {
            Due.is("needs(" + k + ", 0)", x.needs(k, 0), UNKNOWN);
        }
        Due.is("none at all", Bench.hopeless().needs(0, 0), UNKNOWN);
    }

    @Edge("Promise 13: UNKNOWN: CAUSE, ahead of NONE")
    static void needsOfNoCause() {
        FewestCauses x = Bench.twoWays();
        for (int c : Edges.outside(0, 9)) {
            Due.is("needs(0, " + c + ")", x.needs(0, c), UNKNOWN);
        }
    }

    @Edge("Promise 13: UNKNOWN: both")
    static void needsOfNeither() {
        FewestCauses x = Bench.twoWays();
        Due.is("needs(2, 10)", x.needs(2, 10), UNKNOWN);
        Due.is("needs(-1, -1)", x.needs(-1, -1), UNKNOWN);
    }

    // ---- 14 sets

    @Edge("Promise 14: what 0: all, if there is no EXPLANATION; what 1: then none")
    static void setsIfThereIsNone() {
        FewestCauses x = Bench.hopeless();
        Due.is("sets(0)", x.sets(0), 1023);
        Due.is("sets(1)", x.sets(1), 0);
        Due.is("sets(2)", x.sets(2), 0);
    }

    @Edge("Promise 14: of the empty set: none in all, none in any")
    static void setsOfTheEmptySet() {
        FewestCauses x = Bench.small();
        Due.is("sets(0)", x.sets(0), 0);
        Due.is("sets(1)", x.sets(1), 0);
    }

    @Edge("Promise 14: of the one EXPLANATION of all: all ten, in all and in any")
    static void setsOfTheFullSet() {
        FewestCauses x = Bench.allNeeded();
        Due.is("sets(0)", x.sets(0), 1023);
        Due.is("sets(1)", x.sets(1), 1023);
    }

    @Edge("Promise 14: in all, in any: CAUSES 0 and 9")
    static void setsOfFirstAndLast() {
        FewestCauses x = Bench.twoCauses();
        x.link(11, 9, 1);
        x.tell(11, 1);
        Due.is("in all", x.sets(0), 512);
        Due.is("in any", x.sets(1), 515);
        FewestCauses y = Bench.anyOne();
        Due.is("in all of ten", y.sets(0), 0);
        Due.is("in any of ten", y.sets(1), 1023);
    }

    @Edge("Promise 14: what 2: EXCLUDED: none, some, all ten; also if there is no EXPLANATION")
    static void setsExcluded() {
        FewestCauses x = new FewestCauses();
        Due.is("none", x.sets(2), 0);
        for (int c = 0; c < 10; c++) {
            x.link(c, c, 2);
            x.tell(c, 0);
            Due.is(c + 1 + " of them", x.sets(2), (2 << c) - 1);
        }
        x.tell(11, 1);
        Due.is("no EXPLANATION", x.many(0), 0);
        Due.is("all still", x.sets(2), 1023);
        Due.is("in all of none", x.sets(0), 1023);
    }

    @Edge("Promise 14: OUTSIDE: what is not 0, 1, 2")
    static void setsOutside() {
        FewestCauses x = Bench.twoWays();
        for (int what : Edges.outside(0, 2)) {
            Due.is("sets(" + what + ")", x.sets(what), OUTSIDE);
        }
        Due.is("if there is none", Bench.hopeless().sets(3), OUTSIDE);
    }

    // ---- 15 belief

    @Edge("Promise 15: a CAUSE in none: 0 by 1; in some; in all: 1 by 1")
    static void beliefInNoneSomeAll() {
        FewestCauses x = Bench.twoWays();
        Due.is("in none, upper", x.belief(9, 0), 0);
        Due.is("in none, lower", x.belief(9, 1), 1);
        Due.is("in one, upper", x.belief(1, 0), 16);
        Due.is("in one, lower", x.belief(1, 1), 21);
        Due.is("in the other, upper", x.belief(0, 0), 5);
        Due.is("in the other, lower", x.belief(0, 1), 21);
        x.tell(2, 1);
        Due.is("in all, upper", x.belief(0, 0), 1);
        Due.is("in all, lower", x.belief(0, 1), 1);
    }

    @Edge("Promise 15: WEIGHTS of several EXPLANATIONS together")
    static void beliefOfSeveral() {
        FewestCauses x = Bench.twoCauses();
        x.link(1, 2, 1);
        x.link(1, 3, 1);
        x.link(1, 4, 1);
        x.tell(1, 1);
        x.cause(0, 2, 1);
        // {0} with 2, 3 or 4 weighs 2 each, {1} with them 1 each: 6 by 9, 3 by 9.
        Due.is("upper of 0", x.belief(0, 0), 2);
        Due.is("lower of 0", x.belief(0, 1), 3);
        Due.is("upper of 4", x.belief(4, 0), 1);
        Due.is("lower of 4", x.belief(4, 1), 3);
    }

    @Edge("Promise 15: of the empty set: 0 by 1, whatever the ODDS")
    static void beliefOfTheEmptySet() {
        FewestCauses x = Bench.small();
        for (int c = 0; c < 10; c++) {
            Due.is("belief(" + c + ", 0)", x.belief(c, 0), 0);
            Due.is("belief(" + c + ", 1)", x.belief(c, 1), 1);
        }
    }

    @Edge("Promise 15: LOST: UNKNOWN: no such CAUSE")
    static void beliefOfNoCause() {
        FewestCauses x = Bench.twoWays();
        for (int c : Edges.outside(0, 9)) {
            Due.is("belief(" + c + ", 0)", x.belief(c, 0), LOST);
            Due.is("belief(" + c + ", 1)", x.belief(c, 1), LOST);
        }
    }

    @Edge("Promise 15: LOST: OUTSIDE: which is not 0, 1")
    static void beliefOutside() {
        FewestCauses x = Bench.twoWays();
        for (int which : Edges.outside(0, 1)) {
            Due.is("belief(0, " + which + ")", x.belief(0, which), LOST);
        }
    }

    @Edge("Promise 15: LOST: STATE: there is no EXPLANATION")
    static void beliefIfThereIsNone() {
        FewestCauses x = Bench.hopeless();
        for (int c = 0; c < 10; c++) {
            Due.is("belief(" + c + ", 0)", x.belief(c, 0), LOST);
            Due.is("belief(" + c + ", 1)", x.belief(c, 1), LOST);
        }
    }

    // ---- 16 fewest

    @Edge("Promise 16: of the empty set: 0, 0, 1")
    static void fewestOfTheEmptySet() {
        fewest(new FewestCauses(), 0, 0, 1);
    }

    @Edge("Promise 16: of the one EXPLANATION of all: 10, 10, 1")
    static void fewestOfTheFullSet() {
        fewest(Bench.allNeeded(), 10, 10, 1);
    }

    @Edge("Promise 16: all have as many: the fewest are the most, and all have them")
    static void fewestOfAllAlike() {
        fewest(Bench.anyOne(), 1, 1, 10);
    }

    @Edge("Promise 16: one CAUSE against nine")
    static void fewestOfOneAgainstNine() {
        FewestCauses x = new FewestCauses();
        for (int c = 0; c < 9; c++) {
            x.link(c, c, 1);
            x.link(c, 9, 1);
            x.tell(c, 1);
        }
        fewest(x, 1, 9, 1);
        for (int c = 0; c < 9; c++) {
            x.cause(c, 2, 1);
        }
        Due.is("the longest is the first now", x.explanation(0, 1), 9);
        fewest(x, 1, 9, 1);
    }

    @Edge("Promise 16: of any EXPLANATION that there is, not of those that there were")
    static void fewestAfterALongerList() {
        FewestCauses x = new FewestCauses();
        for (int c = 0; c < 3; c++) {
            x.link(0, c, 1);
        }
        x.link(1, 9, 1);
        x.link(2, 2, 2);
        x.tell(0, 1);
        fewest(x, 1, 1, 3);
        x.tell(2, 0);
        fewest(x, 1, 1, 2);
        x.tell(1, 1);
        fewest(x, 2, 2, 2);
    }

    private static void fewest(FewestCauses x, int fewest, int most, int howMany) {
        Due.is("fewest(0)", x.fewest(0), fewest);
        Due.is("fewest(1)", x.fewest(1), most);
        Due.is("fewest(2)", x.fewest(2), howMany);
    }

    @Edge("Promise 16: NONE: there is no EXPLANATION")
    static void fewestIfThereIsNone() {
        fewest(Bench.hopeless(), NONE, NONE, NONE);
    }

    @Edge("Promise 16: OUTSIDE: what is not 0, 1, 2")
    static void fewestOutside() {
        FewestCauses x = Bench.twoWays();
        for (int what : Edges.outside(0, 2)) {
            Due.is("fewest(" + what + ")", x.fewest(what), OUTSIDE);
        }
    }

    @Edge("Promise 16: OUTSIDE ahead of NONE")
    static void fewestOutsideIfThereIsNone() {
        FewestCauses x = Bench.hopeless();
        for (int what : Edges.outside(0, 2)) {
            Due.is("fewest(" + what + ")", x.fewest(what), OUTSIDE);
        }
    }

    // ---- 17 covers

    @Edge("Promise 17: 2 it is an EXPLANATION, 1 it COVERS, 0 it does not")
    static void coversTwoOneNone() {
        FewestCauses x = Bench.twoWays();
        int[] due = {0, 0, 2, 1, 0, 2, 1, 1};
        for (int set = 0; set < 8; set++) {
            Due.is("covers(" + set + ")", x.covers(set), due[set]);
        }
    }

    @Edge("Promise 17: the least set, 0, and the greatest, 1023")
    static void coversLeastAndGreatest() {
        FewestCauses x = new FewestCauses();
        Due.is("covers(0), nothing THERE", x.covers(0), 2);
        Due.is("covers(1023), nothing THERE", x.covers(1023), 1);
        FewestCauses y = Bench.allNeeded();
        Due.is("covers(1023), all needed", y.covers(1023), 2);
        Due.is("covers(0), all needed", y.covers(0), 0);
        Due.is("covers(1022), all needed", y.covers(1022), 0);
        Due.is("covers(511), all needed", y.covers(511), 0);
    }

    @Edge("Promise 17: with no EXPLANATION no set COVERS")
    static void coversIfThereIsNone() {
        FewestCauses x = Bench.hopeless();
        for (int set : new int[] {0, 1, 2, 5, 7, 512, 1023}) {
            Due.is("covers(" + set + ")", x.covers(set), 0);
        }
    }

    @Edge("Promise 17: one EXCLUDED among them: 0, with nothing THERE too")
    static void coversWithAnExcludedOne() {
        FewestCauses x = Bench.small();
        x.tell(0, 0);
        Due.is("{1}", x.covers(2), 0);
        Due.is("all", x.covers(1023), 0);
        Due.is("all others", x.covers(1021), 1);
        Due.is("none", x.covers(0), 2);
    }

    @Edge("Promise 17: a CAUSE more, without a LINK, CAUSE 0 or 9: 1")
    static void coversWithOneMore() {
        FewestCauses x = new FewestCauses();
        x.link(5, 5, 1);
        x.tell(5, 1);
        Due.is("{5}", x.covers(32), 2);
        Due.is("{0, 5}", x.covers(33), 1);
        Due.is("{5, 9}", x.covers(544), 1);
    }

    @Edge("Promise 17: all 1024 sets: as many are EXPLANATIONS as many(0) tells")
    static void coversOfAllSets() {
        int explanations = 0;
        int covering = 0;
        for (int from = 0; from < 1024; from += 256) {
            FewestCauses x = Bench.twoWays();
            for (int set = from; set < from + 256; set++) {
                int answer = x.covers(set);
                explanations += answer == 2 ? 1 : 0;
                covering += answer >= 1 ? 1 : 0;
            }
        }
        Due.is("EXPLANATIONS", explanations, 2);
        // With 1: 512 sets; without 1, with 0 and 2: 128 sets.
        Due.is("all that COVER", covering, 640);
    }

    @Edge("Promise 17: OUTSIDE: set (0 .. 1023)")
    static void coversOutside() {
        FewestCauses x = new FewestCauses();
        for (int set : Edges.outside(0, 1023)) {
            Due.is("covers(" + set + ")", x.covers(set), OUTSIDE);
        }
        for (int bit = 10; bit < 32; bit++) {
            Due.is("bit " + bit, x.covers(1 << bit), OUTSIDE);
            Due.is("bit " + bit + " and CAUSE 0", x.covers(1 << bit | 1), OUTSIDE);
        }
    }

    // ---- 18 unexplained

    @Edge("Promise 18: nothing THERE: none, though some are ABSENT")
    static void unexplainedOfNothing() {
        FewestCauses x = new FewestCauses();
        Due.is("none is asked", x.unexplained(), 0);
        for (int f = 0; f < 12; f++) {
            x.tell(f, 0);
        }
        Due.is("all are ABSENT", x.unexplained(), 0);
    }

    @Edge("Promise 18: all twelve THERE, no LINK")
    static void unexplainedOfAll() {
        FewestCauses x = new FewestCauses();
        for (int f = 0; f < 12; f++) {
            x.tell(f, 1);
            Due.is("after " + f, x.unexplained(), (2 << f) - 1);
        }
    }

    @Edge("Promise 18: a LINK of a CAUSE that is not EXCLUDED: MAY or MUST is enough")
    static void unexplainedWithALink() {
        for (int how = 1; how <= 2; how++) {
            FewestCauses x = new FewestCauses();
            x.tell(11, 1);
            Due.is("no LINK", x.unexplained(), 2048);
            x.link(11, 9, how);
            Due.is("LINK " + how, x.unexplained(), 0);
        }
    }

    @Edge("Promise 18: LINKS of EXCLUDED CAUSES do not count; one that is not EXCLUDED is enough")
    static void unexplainedWithExcludedCauses() {
        FewestCauses x = Bench.twoCauses();
        x.link(11, 0, 2);
        x.tell(11, 0);
        Due.is("one of two EXCLUDED", x.unexplained(), 0);
        x.link(11, 1, 2);
        Due.is("both EXCLUDED", x.unexplained(), 1);
        Due.is("no EXPLANATION then", x.many(0), 0);
        x.withdraw(11);
        Due.is("none EXCLUDED", x.unexplained(), 0);
    }
}
