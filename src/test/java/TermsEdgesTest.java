/** The boundary cases of the document's 'Terms' that are not of one promise alone. */
public final class TermsEdgesTest {
    private static final int UNKNOWN = Edges.UNKNOWN, OUTSIDE = Edges.OUTSIDE, STATE = Edges.STATE;
    private static final int NONE = Edges.NONE;
    private static final long LOST = Edges.LOST;
    // 20 to the tenth: what ten odds of 20 make.
    private static final long GREATEST = 10_240_000_000_000L;

    public static void main(String[] args) throws Exception {
        Edges.runAll(TermsEdgesTest.class);
    }

    // ---- refusals

    @Edge("Terms: refusals in the order in which a line tells them: UNKNOWN ahead of OUTSIDE")
    static void unknownGoesAheadOfOutside() {
        FewestCauses x = Bench.twoWays();
        Due.is("cause(10, 0, 1)", x.cause(10, 0, 1), UNKNOWN);
        Due.is("cause(-1, 1, 21)", x.cause(-1, 1, 21), UNKNOWN);
        Due.is("link(12, 0, 3)", x.link(12, 0, 3), UNKNOWN);
        Due.is("link(0, 10, 3)", x.link(0, 10, 3), UNKNOWN);
        Due.is("link(-1, -1, -1)", x.link(-1, -1, -1), UNKNOWN);
        Due.is("ofCause(10, 6)", x.ofCause(10, 6), UNKNOWN);
        Due.is("ofFinding(12, 5)", x.ofFinding(12, 5), UNKNOWN);
        Due.is("tell(12, 2)", x.tell(12, 2), UNKNOWN);
        Due.is("explanation(2, 2)", x.explanation(2, 2), UNKNOWN);
        Due.is("would(12, 3)", x.would(12, 3), UNKNOWN);
    }

    @Edge("Terms: UNKNOWN ahead of STATE")
    static void unknownGoesAheadOfState() {
        FewestCauses x = new FewestCauses();
        Due.is("withdraw(12)", x.withdraw(12), UNKNOWN);
        Due.is("withdraw(-1)", x.withdraw(-1), UNKNOWN);
    }

    @Edge("Terms: LOST for UNKNOWN, where a long is")
    static void lostForUnknown() {
        FewestCauses x = Bench.twoWays();
        Due.is("weight(2)", x.weight(2), LOST);
        Due.is("share(2, 0)", x.share(2, 0), LOST);
        Due.is("belief(10, 0)", x.belief(10, 0), LOST);
        Due.is("split(12, 0)", x.split(12, 0), LOST);
    }

    @Edge("Terms: LOST for OUTSIDE, where a long is")
    static void lostForOutside() {
        FewestCauses x = Bench.twoWays();
        Due.is("share(0, 2)", x.share(0, 2), LOST);
        Due.is("belief(0, 2)", x.belief(0, 2), LOST);
        Due.is("split(2, 4)", x.split(2, 4), LOST);
    }

    @Edge("Terms: LOST for STATE, where a long is")
    static void lostForState() {
        FewestCauses x = Bench.hopeless();
        Due.is("belief(0, 0), no EXPLANATION", x.belief(0, 0), LOST);
        Due.is("split(0, 0), THERE", x.split(0, 0), LOST);
    }

    @Edge("Terms: a call with several things wrong is LOST all the same")
    static void lostForSeveral() {
        FewestCauses x = Bench.hopeless();
        Due.is("share(0, 2)", x.share(0, 2), LOST);
        Due.is("belief(10, 2)", x.belief(10, 2), LOST);
        Due.is("split(0, 4)", x.split(0, 4), LOST);
        Due.is("split(12, 4)", x.split(12, 4), LOST);
    }

    @Edge("Face: the constants")
    static void constants() {
        Due.is("UNKNOWN", FewestCauses.UNKNOWN, -1);
        Due.is("OUTSIDE", FewestCauses.OUTSIDE, -2);
        Due.is("STATE", FewestCauses.STATE, -3);
        Due.is("NONE", FewestCauses.NONE, -9);
        Due.is("LOST", FewestCauses.LOST, -9223372036854775808L);
    }

    @Edge("Terms: refusals change nothing: cause")
    static void refusedCauseChangesNothing() {
        FewestCauses x = Bench.twoWays();
        x.cause(0, 0, 9);
        x.cause(0, 9, 0);
        x.cause(0, 21, 9);
        x.cause(0, 9, 21);
        x.cause(10, 9, 9);
        x.cause(-1, 9, 9);
        x.cause(32, 9, 9);
        Answers.same("cause", x, Bench.twoWays());
    }

    @Edge("Terms: refusals change nothing: link")
    static void refusedLinkChangesNothing() {
        FewestCauses x = Bench.twoWays();
        x.link(0, 0, 3);
        x.link(0, 0, -1);
        x.link(3, 3, 3);
        x.link(12, 0, 2);
        x.link(-1, 0, 2);
        x.link(0, 10, 2);
        x.link(0, -1, 2);
        x.link(32, 32, 2);
        Answers.same("link", x, Bench.twoWays());
    }

    @Edge("Terms: refusals change nothing: tell")
    static void refusedTellChangesNothing() {
        FewestCauses x = Bench.twoWays();
        x.tell(0, 2);
        x.tell(0, -1);
        x.tell(2, 2);
        x.tell(12, 0);
        x.tell(-1, 0);
        x.tell(32, 0);
        Answers.same("tell", x, Bench.twoWays());
    }

    @Edge("Terms: refusals change nothing: withdraw")
    static void refusedWithdrawChangesNothing() {
        FewestCauses x = Bench.twoWays();
        x.withdraw(2);
        x.withdraw(11);
        x.withdraw(12);
        x.withdraw(-1);
        x.withdraw(32);
        Answers.same("withdraw", x, Bench.twoWays());
    }

    @Edge("Terms: refusals change nothing: back, with nothing to be taken back")
    static void refusedBackChangesNothing() {
        FewestCauses x = Bench.small();
        x.tell(0, 1);
        x.back();
        Due.is("back()", x.back(), STATE);
        Due.is("back() again", x.back(), STATE);
        x.tell(1, 1);
        FewestCauses y = Bench.small();
        y.tell(1, 1);
        Answers.same("back", x, y);
    }

    @Edge("Terms: refusals change nothing: calls that only answer")
    static void refusedQuestionsChangeNothing() {
        FewestCauses x = Bench.twoWays();
        for (int wrong : new int[] {-1, 2000}) {
            x.ofCause(wrong, 0);
            x.ofCause(0, wrong);
            x.ofFinding(wrong, 0);
            x.ofFinding(0, wrong);
            x.explanation(wrong, 0);
            x.explanation(0, wrong);
            x.weight(wrong);
            x.share(wrong, 0);
            x.share(0, wrong);
            x.needs(wrong, 0);
            x.needs(0, wrong);
            x.sets(wrong);
            x.belief(wrong, 0);
            x.belief(0, wrong);
            x.fewest(wrong);
            x.covers(wrong);
            x.split(wrong, 0);
            x.split(2, wrong);
            x.would(wrong, 0);
            x.would(0, wrong);
            x.plan(wrong, 0);
            x.plan(0, wrong);
            x.many(wrong);
        }
        Answers.same("questions", x, Bench.twoWays());
    }

    @Edge("Terms, Promises 4, 5, 10 to 23: calls that only answer change nothing")
    static void questionsChangeNothing() {
        FewestCauses x = Bench.twoWays();
        x.would(0, 0);
        x.would(11, 1);
        x.plan(0, 0);
        x.would(2, 1);
        x.next();
        x.split(3, 3);
        x.covers(1023);
        x.many(5);
        Answers.same("questions", x, Bench.twoWays());
    }

    @Edge("Terms: a refusal is not an answer: no answer that stands for a number is below 0")
    static void answersAreNotNegative() {
        FewestCauses x = Bench.allNeeded();
        Due.is("a set of all CAUSES", x.explanation(0, 0), 1023);
        Due.is("a set of one FINDING", x.needs(0, 9), 512);
        for (int f = 0; f < 12; f++) {
            x.link(f, 9, 2);
            x.tell(f, 1);
        }
        Due.is("a set of all FINDINGS", x.ofCause(9, 2), 4095);
        Due.is("and again", x.ofCause(9, 3), 4095);
        Due.is("and needed", x.needs(0, 9), 4095);
    }

    // ---- how sets and fractions are told

    @Edge("Terms: sets are told as bits: bit 0 is CAUSE 0, bit 9 is CAUSE 9")
    static void bitsOfCauses() {
        FewestCauses x = new FewestCauses();
        x.link(5, 0, 1);
        Due.is("CAUSE 0 alone", x.ofFinding(5, 1), 1);
        x.link(5, 9, 2);
        Due.is("CAUSES 0 and 9", x.ofFinding(5, 1), 513);
        Due.is("CAUSE 9 alone", x.ofFinding(5, 2), 512);
    }

    @Edge("Terms: sets are told as bits: bit 0 is FINDING 0, bit 11 is FINDING 11")
    static void bitsOfFindings() {
        FewestCauses x = new FewestCauses();
        x.link(0, 5, 1);
        Due.is("FINDING 0 alone", x.ofCause(5, 2), 1);
        x.link(11, 5, 2);
        Due.is("FINDINGS 0 and 11", x.ofCause(5, 2), 2049);
        Due.is("FINDING 11 alone", x.ofCause(5, 3), 2048);
    }

    @Edge("Terms: fractions in least terms")
    static void fractionsInLeastTerms() {
        FewestCauses x = Bench.twoWays();
        Due.is("48 by 63, upper", x.share(0, 0), 16);
        Due.is("48 by 63, lower", x.share(0, 1), 21);
        Due.is("15 by 63, upper", x.belief(2, 0), 5);
        Due.is("15 by 63, lower", x.belief(2, 1), 21);
    }

    @Edge("Terms: fractions in least terms: where nothing can be shortened")
    static void fractionsThatStay() {
        FewestCauses x = Bench.twoCauses();
        x.cause(0, 7, 1);
        x.cause(1, 4, 1);
        Due.is("7 by 11, upper", x.share(0, 0), 7);
        Due.is("7 by 11, lower", x.share(0, 1), 11);
        Due.is("4 by 11, upper", x.share(1, 0), 4);
        Due.is("4 by 11, lower", x.share(1, 1), 11);
    }

    @Edge("Terms: 0 is 0 by 1")
    static void zeroIsZeroByOne() {
        FewestCauses x = Bench.twoWays();
        Due.is("a CAUSE in none, upper", x.belief(9, 0), 0);
        Due.is("a CAUSE in none, lower", x.belief(9, 1), 1);
    }

    @Edge("Terms: the whole is 1 by 1")
    static void theWholeIsOneByOne() {
        FewestCauses x = Bench.allNeeded();
        for (int c = 0; c < 10; c++) {
            x.cause(c, 20, 3);
        }
        Due.is("share, upper", x.share(0, 0), 1);
        Due.is("share, lower", x.share(0, 1), 1);
        Due.is("belief, upper", x.belief(9, 0), 1);
        Due.is("belief, lower", x.belief(9, 1), 1);
    }

    @Edge("Terms: fractions of numbers far beyond an int")
    static void fractionsOfLargeNumbers() {
        FewestCauses x = Bench.anyOne();
        for (int c = 0; c < 10; c++) {
            x.cause(c, 20, 19);
        }
        x.cause(0, 19, 20);
        // {0} weighs 19 * 19^9, each other 20 * 20 * 19^8: 361 against 400 nine times.
        Due.is("weight(0)", x.weight(0), 400L * 16_983_563_041L);
        Due.is("weight(9)", x.weight(9), 361L * 16_983_563_041L);
        Due.is("upper of the first", x.share(0, 0), 400);
        Due.is("lower of the first", x.share(0, 1), 3961);
        Due.is("upper of the last", x.share(9, 0), 361);
        Due.is("lower of the last", x.share(9, 1), 3961);
    }

    @Edge("Terms: fractions whose lower number is itself far beyond an int")
    static void fractionsThatStayLarge() {
        FewestCauses x = new FewestCauses();
        int[] primes = {19, 17, 13, 11, 7, 19, 17, 13, 11};
        for (int c = 0; c < 9; c++) {
            x.cause(c, primes[c], 20);
            x.link(c, c, 1);
            x.link(c, 9, 1);
            x.tell(c, 1);
        }
        // {9} weighs 20 to the ninth, {0 .. 8} the primes multiplied: nothing divides both.
        long nine = 512_000_000_000L;
        long others = 14_933_966_047L;
        Due.is("how many", x.many(0), 2);
        Due.is("upper of the first", x.share(0, 0), nine);
        Due.is("lower of the first", x.share(0, 1), nine + others);
        Due.is("upper of the second", x.share(1, 0), others);
        Due.is("lower of the second", x.share(1, 1), nine + others);
        Due.is("upper of belief in 9", x.belief(9, 0), nine);
        Due.is("lower of belief in 0", x.belief(0, 1), nine + others);
    }

    // ---- part 1

    @Edge("Terms 1: CAUSES 0 .. 9: the first and the last are, what is beside them is not")
    static void firstAndLastCause() {
        FewestCauses x = new FewestCauses();
        Due.is("cause(0, 2, 2)", x.cause(0, 2, 2), 1);
        Due.is("cause(9, 2, 2)", x.cause(9, 2, 2), 1);
        Due.is("cause(-1, 2, 2)", x.cause(-1, 2, 2), UNKNOWN);
        Due.is("cause(10, 2, 2)", x.cause(10, 2, 2), UNKNOWN);
    }

    @Edge("Terms 1: FINDINGS 0 .. 11: the first and the last are, what is beside them is not")
    static void firstAndLastFinding() {
        FewestCauses x = new FewestCauses();
        Due.is("tell(0, 0)", x.tell(0, 0), 1);
        Due.is("tell(11, 0)", x.tell(11, 0), 1);
        Due.is("tell(-1, 0)", x.tell(-1, 0), UNKNOWN);
        Due.is("tell(12, 0)", x.tell(12, 0), UNKNOWN);
    }

    @Edge("Terms 1: EXCLUDED are CAUSES that MUST bring about a FINDING that is ABSENT, no others")
    static void excludedByMustAndAbsentAlone() {
        for (int how = 0; how <= 2; how++) {
            for (int state = 0; state <= 2; state++) {
                FewestCauses x = new FewestCauses();
                x.link(11, 9, how);
                if (state != 0) {
                    x.tell(11, state == 1 ? 1 : 0);
                }
                int due = how == 2 && state == 2 ? 1 : 0;
                Due.is("LINK " + how + ", FINDING " + state, x.ofCause(9, 4), due);
                Due.is("as a set", x.sets(2), due == 1 ? 512 : 0);
            }
        }
    }

    @Edge("Terms 1: EXCLUDED: a FINDING that is ABSENT, one is enough of several")
    static void excludedByOneOfSeveral() {
        FewestCauses x = new FewestCauses();
        x.link(0, 3, 2);
        x.link(11, 3, 2);
        x.tell(0, 1);
        x.tell(11, 0);
        Due.is("one THERE, one ABSENT", x.ofCause(3, 4), 1);
        x.tell(0, 0);
        Due.is("both ABSENT", x.ofCause(3, 4), 1);
        x.withdraw(11);
        Due.is("the other is ABSENT still", x.ofCause(3, 4), 1);
        x.withdraw(0);
        Due.is("none is", x.ofCause(3, 4), 0);
    }

    @Edge("Terms 1: EXCLUDED goes by the LINKS as they are, not as they were when it was told")
    static void excludedByALaterLink() {
        FewestCauses x = new FewestCauses();
        x.tell(4, 0);
        Due.is("no LINK", x.sets(2), 0);
        x.link(4, 4, 2);
        Due.is("MUST", x.sets(2), 16);
        x.link(4, 4, 1);
        Due.is("MAY", x.sets(2), 0);
    }

    @Edge("Terms 1: COVERS, if none of them is EXCLUDED")
    static void noneMayBeExcluded() {
        FewestCauses x = Bench.twoCauses();
        x.link(1, 9, 2);
        x.tell(1, 0);
        Due.is("{0}", x.covers(1), 2);
        Due.is("{0} with an EXCLUDED one", x.covers(513), 0);
        x.link(1, 0, 2);
        Due.is("{0}, EXCLUDED", x.covers(1), 0);
        Due.is("{1} is left", x.many(0), 1);
        Due.is("alone", x.explanation(0, 0), 2);
    }

    @Edge("Terms 1: a LINK (MAY or MUST): either is enough")
    static void eitherLinkIsEnough() {
        for (int how = 1; how <= 2; how++) {
            FewestCauses x = new FewestCauses();
            x.link(11, 9, how);
            x.tell(11, 1);
            Due.is("LINK " + how, x.covers(512), 2);
        }
    }

    @Edge("Terms 1: each FINDING that is THERE: one without is enough for none")
    static void eachFindingIsToBeExplained() {
        FewestCauses x = Bench.allNeeded();
        Due.is("all have one", x.covers(1023), 2);
        x.tell(11, 1);
        Due.is("one has none", x.covers(1023), 0);
        Due.is("no EXPLANATION", x.many(0), 0);
    }

    @Edge("Terms 1: FINDINGS that are UNASKED or ABSENT need no CAUSE")
    static void othersNeedNoCause() {
        FewestCauses x = Bench.twoCauses();
        x.link(1, 5, 1);
        x.link(2, 6, 1);
        x.tell(1, 0);
        Due.is("{0}", x.covers(1), 2);
        Due.is("{1}", x.covers(2), 2);
        Due.is("no other", x.many(0), 2);
    }

    @Edge("Terms 1: while no set COVERS that is made from it by leaving out some")
    static void noneCanBeSpared() {
        FewestCauses x = new FewestCauses();
        // Any two of 0, 1, 2 explain findings 0, 1, 2; all three are one too many.
        for (int f = 0; f < 3; f++) {
            x.link(f, f, 1);
            x.link(f, (f + 1) % 3, 1);
            x.tell(f, 1);
        }
        Due.is("how many", x.many(0), 3);
        Due.is("{0, 1}", x.explanation(0, 0), 3);
        Due.is("{0, 2}", x.explanation(1, 0), 5);
        Due.is("{1, 2}", x.explanation(2, 0), 6);
        Due.is("all three", x.covers(7), 1);
    }

    @Edge("Terms 1: with no FINDING THERE the empty set is the one EXPLANATION: none asked")
    static void emptySetOfNoneAsked() {
        theEmptySetAlone(Bench.small());
    }

    @Edge("Terms 1: with no FINDING THERE the empty set is the one EXPLANATION: all ABSENT, all EXCLUDED")
    static void emptySetOfAllAbsent() {
        FewestCauses x = new FewestCauses();
        for (int c = 0; c < 10; c++) {
            x.link(c, c, 2);
        }
        for (int f = 0; f < 12; f++) {
            Due.is("tell(" + f + ", 0)", x.tell(f, 0), 1);
        }
        Due.is("all are EXCLUDED", x.sets(2), 1023);
        theEmptySetAlone(x);
    }

    @Edge("Terms 1: with no FINDING THERE the empty set is the one EXPLANATION: the last one withdrawn")
    static void emptySetAfterTheLastIsWithdrawn() {
        FewestCauses x = Bench.twoCauses();
        Due.is("withdraw(0)", x.withdraw(0), 1);
        theEmptySetAlone(x);
    }

    private static void theEmptySetAlone(FewestCauses x) {
        Due.is("how many", x.many(0), 1);
        Due.is("its set", x.explanation(0, 0), 0);
        Due.is("how many CAUSES", x.explanation(0, 1), 0);
        Due.is("covers(0)", x.covers(0), 2);
        Due.is("no second", x.explanation(1, 0), UNKNOWN);
        Due.is("its share", x.share(0, 0), 1);
    }

    @Edge("Terms 1: if no set COVERS, there is none: no LINK")
    static void noneWithoutALink() {
        FewestCauses x = new FewestCauses();
        Due.is("tell(0, 1)", x.tell(0, 1), 0);
        Due.is("many(0)", x.many(0), 0);
        Due.is("covers(1023)", x.covers(1023), 0);
    }

    @Edge("Terms 1: if no set COVERS, there is none: all with a LINK are EXCLUDED")
    static void noneWhenAllAreExcluded() {
        FewestCauses x = Bench.anyOne();
        for (int c = 0; c < 10; c++) {
            Due.is("left ahead of " + c, x.many(0), 10 - c);
            x.link(11, c, 2);
            x.tell(11, 0);
        }
        Due.is("none is left", x.many(0), 0);
        Due.is("back to nine EXCLUDED and one", x.link(11, 9, 1), 2);
        Due.is("one is left", x.many(0), 1);
        Due.is("it is {9}", x.explanation(0, 0), 512);
    }

    @Edge("Terms 1: WEIGHT of the empty set: all b multiplied; 1 at least")
    static void weightOfTheEmptySet() {
        FewestCauses x = new FewestCauses();
        Due.is("at first", x.weight(0), 1);
        for (int c = 0; c < 10; c++) {
            x.cause(c, 7, c + 1);
        }
        Due.is("1 * 2 * .. * 10", x.weight(0), 3_628_800);
    }

    @Edge("Terms 1: WEIGHT of the set of all: all a multiplied")
    static void weightOfTheSetOfAll() {
        FewestCauses x = Bench.allNeeded();
        for (int c = 0; c < 10; c++) {
            x.cause(c, c + 1, 7);
        }
        Due.is("1 * 2 * .. * 10", x.weight(0), 3_628_800);
    }

    @Edge("Terms 1: WEIGHT, the greatest: ten times 20 multiplied, whether a or b")
    static void greatestWeight() {
        FewestCauses x = Bench.allNeeded();
        FewestCauses y = new FewestCauses();
        long due = 1;
        for (int c = 0; c < 10; c++) {
            x.cause(c, 20, 1);
            y.cause(c, 1, 20);
            due *= 20;
            Due.is("a of " + (c + 1), x.weight(0), due);
            Due.is("b of " + (c + 1), y.weight(0), due);
        }
        Due.is("20 to the tenth", due, GREATEST);
    }

    @Edge("Terms 1: numbered by WEIGHT, the greatest first, though by 1 and with more CAUSES")
    static void greaterWeightGoesFirst() {
        FewestCauses x = oneOrTwo();
        x.cause(0, 13, 5);
        x.cause(1, 2, 5);
        // {2} weighs 5 * 5, {0, 1} weighs 13 * 2.
        Due.is("the heavier", x.explanation(0, 0), 3);
        Due.is("by 1", x.weight(0) - x.weight(1), 1);
        x.cause(0, 12, 5);
        // {0, 1} weighs 24 now.
        Due.is("now the other", x.explanation(0, 0), 4);
        Due.is("by 1 too", x.weight(0) - x.weight(1), 1);
    }

    /** {2} or {0, 1}. */
    private static FewestCauses oneOrTwo() {
        FewestCauses x = new FewestCauses();
        x.link(0, 0, 1);
        x.link(0, 2, 1);
        x.link(1, 1, 1);
        x.link(1, 2, 1);
        x.tell(0, 1);
        x.tell(1, 1);
        return x;
    }

    @Edge("Terms 1: those alike by how many CAUSES they have, the fewest first, though the greater set")
    static void fewerCausesGoFirst() {
        FewestCauses x = oneOrTwo();
        Due.is("{2}", x.explanation(0, 0), 4);
        Due.is("{0, 1}", x.explanation(1, 0), 3);
        x.cause(0, 5, 5);
        x.cause(1, 6, 5);
        x.cause(2, 6, 5);
        Due.is("alike, {0, 1}", x.weight(1), 5 * 6 * 5);
        Due.is("alike, {2}", x.weight(0), 5 * 5 * 6);
        Due.is("{2} still", x.explanation(0, 0), 4);
    }

    @Edge("Terms 1: of these by the sets as numbers, the least first")
    static void lowerSetsGoFirst() {
        FewestCauses x = new FewestCauses();
        x.link(0, 0, 1);
        x.link(0, 1, 1);
        x.link(1, 8, 1);
        x.link(1, 9, 1);
        x.tell(0, 1);
        x.tell(1, 1);
        Due.is("{0, 8}", x.explanation(0, 0), 257);
        Due.is("{1, 8}", x.explanation(1, 0), 258);
        Due.is("{0, 9}", x.explanation(2, 0), 513);
        Due.is("{1, 9}", x.explanation(3, 0), 514);
    }

    @Edge("Terms 1: the order at the greatest WEIGHTS")
    static void orderAtTheGreatestWeights() {
        FewestCauses x = oneOrTwo();
        for (int c = 0; c < 10; c++) {
            x.cause(c, 20, 20);
        }
        Due.is("alike: {2}", x.explanation(0, 0), 4);
        Due.is("alike: {0, 1}", x.explanation(1, 0), 3);
        Due.is("weight", x.weight(1), GREATEST);
        x.cause(2, 19, 20);
        Due.is("the heavier: {0, 1}", x.explanation(0, 0), 3);
        Due.is("weight", x.weight(0), GREATEST);
        Due.is("the lighter", x.weight(1), GREATEST / 20 * 19);
    }

    @Edge("Terms 1: numbers follow the ODDS as they are now")
    static void orderFollowsTheOdds() {
        FewestCauses x = Bench.anyOne();
        Due.is("all alike: {0}", x.explanation(0, 0), 1);
        Due.is("all alike: {9}", x.explanation(9, 0), 512);
        x.cause(9, 2, 1);
        Due.is("{9} is likely", x.explanation(0, 0), 512);
        Due.is("{8} is last", x.explanation(9, 0), 256);
        x.cause(9, 1, 2);
        Due.is("{9} is not", x.explanation(9, 0), 512);
        x.cause(9, 1, 1);
        Due.is("as at first", x.explanation(0, 0), 1);
    }

    @Edge("Terms 1: a long list: all EXPLANATIONS, each once, in order")
    static void aLongList() {
        FewestCauses x = Bench.longList();
        Plain plain = new Plain();
        for (int f = 0; f < 12; f++) {
            for (int c = 0; c < 10; c++) {
                plain.link(f, c, Bench.LONG_LIST[f] >> c & 1);
            }
            plain.tell(f, 1);
        }
        for (int c = 0; c < 10; c++) {
            x.cause(c, 1 + c % 3, 1 + c % 2);
            plain.cause(c, 1 + c % 3, 1 + c % 2);
        }
        Due.is("how many", x.many(0), 109);
        for (int k = 0; k < 109; k++) {
            Due.is("explanation(" + k + ", 0)", x.explanation(k, 0), plain.explanation(k, 0));
        }
        Due.is("no further", x.explanation(109, 0), UNKNOWN);
        Due.is("weight of the last", x.weight(108), plain.weight(108));
        Due.is("no further weight", x.weight(109), LOST);
    }

    @Edge("Terms 1: a long list grows and shrinks by twelve FINDINGS, and none is left over")
    static void aLongListIsTakenDown() {
        FewestCauses x = Bench.longList();
        int[] counts = new int[12];
        for (int f = 11; f > 0; f--) {
            counts[f] = x.back();
        }
        Due.is("FINDING 0 alone: CAUSES 0, 3, 5, 6, 7, 8", counts[1], 6);
        for (int f = 1; f < 11; f++) {
            Due.is("tell(" + f + ", 1) again", x.tell(f, 1), counts[f + 1]);
        }
        Due.is("tell(11, 1) again", x.tell(11, 1), 109);
        x.anew();
        Due.is("one after all that", x.many(0), 1);
        Due.is("no second", x.weight(1), LOST);
        Due.is("in none", x.ofCause(0, 5), 0);
    }

    @Edge("Terms 1: SHARE: WEIGHT by that of all: together they are the whole")
    static void sharesAreTheWhole() {
        FewestCauses x = Bench.anyOne();
        for (int c = 0; c < 10; c++) {
            x.cause(c, c + 1, 1);
        }
        long sum = 0;
        for (int k = 0; k < 10; k++) {
            // The weights are 10, 9 .. 1, of 55.
            Due.is("weight(" + k + ")", x.weight(k), 10 - k);
            sum += x.share(k, 0) * (55 / x.share(k, 1));
        }
        Due.is("the whole", sum, 55);
    }

    @Edge("What it is: at most 512 calls; the 512th is answered as the first")
    static void the512thCall() {
        FewestCauses x = new FewestCauses();
        x.link(3, 3, 1);
        x.link(3, 4, 2);
        for (int i = 0; i < 254; i++) {
            Due.is("tell(3, 1), call " + (3 + 2 * i), x.tell(3, 1), 2);
            Due.is("tell(3, 0), call " + (4 + 2 * i), x.tell(3, 0), 1);
        }
        Due.is("call 511", x.back(), 2);
        Due.is("call 512", x.explanation(1, 0), 16);
    }

    @Edge("What it is: objects are apart")
    static void objectsAreApart() {
        FewestCauses x = new FewestCauses();
        FewestCauses other = Bench.twoWays();
        other.tell(2, 0);
        other.plan(0, 0);
        Answers.same("a new one beside another", x, new FewestCauses());
        Due.is("and the other", other.many(0), 1);
    }

    @Edge("Terms: NONE is -9 and no refusal: what is refused goes ahead of it")
    static void refusalsGoAheadOfNone() {
        FewestCauses x = Bench.hopeless();
        Due.is("fewest(3)", x.fewest(3), OUTSIDE);
        Due.is("fewest(2)", x.fewest(2), NONE);
        Due.is("plan(0, 3)", x.plan(0, 3), OUTSIDE);
        Due.is("plan(12, 0)", x.plan(12, 0), OUTSIDE);
        Due.is("plan(11, 0)", x.plan(11, 0), NONE);
        FewestCauses y = new FewestCauses();
        Due.is("needs(0, 10)", y.needs(0, 10), UNKNOWN);
        Due.is("needs(1, 0)", y.needs(1, 0), UNKNOWN);
        Due.is("needs(0, 0)", y.needs(0, 0), NONE);
    }
}
