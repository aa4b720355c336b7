/** The boundary cases of promises 1 to 9 (causes, findings) and of part 3 of the terms. */
public final class CausesEdgesTest {
    private static final int UNKNOWN = Edges.UNKNOWN, OUTSIDE = Edges.OUTSIDE, STATE = Edges.STATE;
    private static final int NONE = Edges.NONE;

    public static void main(String[] args) throws Exception {
        Edges.runAll(CausesEdgesTest.class);
    }

    // ---- 1 a new object

    @Edge("Promise 1: ODDS 1 and 1")
    static void newOdds() {
        FewestCauses x = new FewestCauses();
        for (int c = 0; c < 10; c++) {
            Due.is("ofCause(" + c + ", 0)", x.ofCause(c, 0), 1);
            Due.is("ofCause(" + c + ", 1)", x.ofCause(c, 1), 1);
        }
    }

    @Edge("Promise 1: no LINKS")
    static void newLinks() {
        FewestCauses x = new FewestCauses();
        Due.is("many(3)", x.many(3), 0);
        for (int c = 0; c < 10; c++) {
            Due.is("ofCause(" + c + ", 2)", x.ofCause(c, 2), 0);
            Due.is("ofCause(" + c + ", 3)", x.ofCause(c, 3), 0);
        }
        for (int f = 0; f < 12; f++) {
            Due.is("ofFinding(" + f + ", 1)", x.ofFinding(f, 1), 0);
            Due.is("ofFinding(" + f + ", 2)", x.ofFinding(f, 2), 0);
        }
        for (int f = 0; f < 12; f++) {
            for (int c = 0; c < 10; c++) {
                Due.is("link(" + f + ", " + c + ", 0)", x.link(f, c, 0), 0);
            }
        }
    }

    @Edge("Promise 1: all FINDINGS UNASKED")
    static void newFindings() {
        FewestCauses x = new FewestCauses();
        for (int f = 0; f < 12; f++) {
            Due.is("ofFinding(" + f + ", 0)", x.ofFinding(f, 0), 0);
            Due.is("withdraw(" + f + ")", x.withdraw(f), STATE);
        }
        Due.is("many(1)", x.many(1), 0);
        Due.is("many(2)", x.many(2), 0);
        Due.is("anew()", x.anew(), 0);
    }

    @Edge("Promise 1: nothing to be taken back")
    static void newHasNothingToTakeBack() {
        FewestCauses x = new FewestCauses();
        Due.is("many(4)", x.many(4), 0);
        Due.is("back()", x.back(), STATE);
    }

    @Edge("Promise 1, Terms 1: of a new object the empty set is the one EXPLANATION")
    static void newExplanations() {
        FewestCauses x = new FewestCauses();
        Due.is("many(0)", x.many(0), 1);
        Due.is("explanation(0, 0)", x.explanation(0, 0), 0);
        Due.is("explanation(0, 1)", x.explanation(0, 1), 0);
        Due.is("weight(0)", x.weight(0), 1);
        Due.is("share(0, 0)", x.share(0, 0), 1);
        Due.is("share(0, 1)", x.share(0, 1), 1);
        Due.is("needs(0, 0)", x.needs(0, 0), NONE);
        for (int what = 0; what < 3; what++) {
            Due.is("sets(" + what + ")", x.sets(what), 0);
            Due.is("fewest(" + what + ")", x.fewest(what), what == 2 ? 1 : 0);
        }
        Due.is("belief(0, 0)", x.belief(0, 0), 0);
        Due.is("belief(0, 1)", x.belief(0, 1), 1);
        Due.is("covers(0)", x.covers(0), 2);
        Due.is("covers(1)", x.covers(1), 1);
        Due.is("unexplained()", x.unexplained(), 0);
    }

    @Edge("Promise 1: of a new object there is nothing to ask for")
    static void newAsking() {
        FewestCauses x = new FewestCauses();
        int[] parts = {0, 1, 0, 1};
        int[] counts = {1, 0, 1};
        for (int f = 0; f < 12; f++) {
            for (int what = 0; what < 4; what++) {
                Due.is("split(" + f + ", " + what + ")", x.split(f, what), parts[what]);
            }
            for (int is = 0; is < 3; is++) {
                Due.is("would(" + f + ", " + is + ")", x.would(f, is), counts[is]);
            }
        }
        Due.is("next()", x.next(), NONE);
        Due.is("plan(0, 0)", x.plan(0, 0), NONE);
        Due.is("many(5)", x.many(5), 0);
    }

    // ---- 2 cause

    @Edge("Promise 2: ODDS 1 .. 20: the least and the most")
    static void leastAndMostOdds() {
        FewestCauses x = new FewestCauses();
        for (int n : new int[] {1, 20}) {
            Due.is("cause(0, " + n + ", 10)", x.cause(0, n, 10), 1);
            Due.is("a", x.ofCause(0, 0), n);
            Due.is("b", x.ofCause(0, 1), 10);
            Due.is("cause(9, 10, " + n + ")", x.cause(9, 10, n), 1);
            Due.is("a of 9", x.ofCause(9, 0), 10);
            Due.is("b of 9", x.ofCause(9, 1), n);
        }
    }

    @Edge("Promise 2: OUTSIDE: a too small or too large; b stays too")
    static void oddsForOutside() {
        FewestCauses x = new FewestCauses();
        x.cause(3, 4, 5);
        for (int a : Edges.outside(1, 20)) {
            Due.is("cause(3, " + a + ", 9)", x.cause(3, a, 9), OUTSIDE);
        }
        Due.is("a stays", x.ofCause(3, 0), 4);
        Due.is("b stays", x.ofCause(3, 1), 5);
    }

    @Edge("Promise 2: OUTSIDE: b too small or too large; a stays too")
    static void oddsAgainstOutside() {
        FewestCauses x = new FewestCauses();
        x.cause(3, 4, 5);
        for (int b : Edges.outside(1, 20)) {
            Due.is("cause(3, 9, " + b + ")", x.cause(3, 9, b), OUTSIDE);
        }
        Due.is("a stays", x.ofCause(3, 0), 4);
        Due.is("b stays", x.ofCause(3, 1), 5);
    }

    @Edge("Promise 2: OUTSIDE: both")
    static void bothOddsOutside() {
        FewestCauses x = new FewestCauses();
        Due.is("cause(0, 0, 0)", x.cause(0, 0, 0), OUTSIDE);
        Due.is("cause(0, 21, 21)", x.cause(0, 21, 21), OUTSIDE);
        Due.is("cause(0, 0, 21)", x.cause(0, 0, 21), OUTSIDE);
    }

    @Edge("Promise 2: UNKNOWN: no such CAUSE")
    static void oddsOfNoCause() {
        FewestCauses x = new FewestCauses();
        for (int c : Edges.outside(0, 9)) {
            Due.is("cause(" + c + ", 5, 5)", x.cause(c, 5, 5), UNKNOWN);
        }
        Due.is("weight(0) stays", x.weight(0), 1);
    }

    @Edge("Promise 2: 1, though the ODDS were the same")
    static void sameOddsAgain() {
        FewestCauses x = new FewestCauses();
        Due.is("cause(0, 1, 1)", x.cause(0, 1, 1), 1);
        Due.is("cause(0, 1, 1) again", x.cause(0, 1, 1), 1);
    }

    @Edge("Promise 2: a CAUSE gets ODDS, the others keep theirs")
    static void oddsOfTheOthersStay() {
        FewestCauses x = new FewestCauses();
        x.cause(5, 7, 8);
        for (int c = 0; c < 10; c++) {
            Due.is("a of " + c, x.ofCause(c, 0), c == 5 ? 7 : 1);
            Due.is("b of " + c, x.ofCause(c, 1), c == 5 ? 8 : 1);
        }
    }

    // ---- 3 link

    @Edge("Promise 3: what it was: from each of 0, 1, 2 to each")
    static void linkFromEachToEach() {
        for (int was = 0; was <= 2; was++) {
            for (int how = 0; how <= 2; how++) {
                FewestCauses x = new FewestCauses();
                x.link(11, 9, was);
                Due.is("from " + was + " to " + how, x.link(11, 9, how), was);
                Due.is("it is " + how, x.link(11, 9, how), how);
                Due.is("linked", x.ofCause(9, 2), how == 0 ? 0 : 2048);
                Due.is("MUST", x.ofCause(9, 3), how == 2 ? 2048 : 0);
                Due.is("linked, from the other side", x.ofFinding(11, 1), how == 0 ? 0 : 512);
                Due.is("MUST, from the other side", x.ofFinding(11, 2), how == 2 ? 512 : 0);
                Due.is("many(3)", x.many(3), how == 0 ? 0 : 1);
            }
        }
    }

    @Edge("Promise 3: the first and the last FINDING with the first and the last CAUSE")
    static void linksAtTheCorners() {
        FewestCauses x = new FewestCauses();
        Due.is("link(0, 0, 1)", x.link(0, 0, 1), 0);
        Due.is("link(0, 9, 2)", x.link(0, 9, 2), 0);
        Due.is("link(11, 0, 2)", x.link(11, 0, 2), 0);
        Due.is("link(11, 9, 1)", x.link(11, 9, 1), 0);
        Due.is("of CAUSE 0", x.ofCause(0, 2), 2049);
        Due.is("of CAUSE 9", x.ofCause(9, 2), 2049);
        Due.is("MUST of CAUSE 0", x.ofCause(0, 3), 2048);
        Due.is("MUST of CAUSE 9", x.ofCause(9, 3), 1);
        Due.is("many(3)", x.many(3), 4);
    }

    @Edge("Promise 3: the FINDING is told first: 10 and 11 are FINDINGS and no CAUSES")
    static void findingIsToldFirst() {
        FewestCauses x = new FewestCauses();
        Due.is("link(10, 9, 1)", x.link(10, 9, 1), 0);
        Due.is("link(11, 9, 1)", x.link(11, 9, 1), 0);
        Due.is("link(9, 10, 1)", x.link(9, 10, 1), UNKNOWN);
        Due.is("link(9, 11, 1)", x.link(9, 11, 1), UNKNOWN);
    }

    @Edge("Promise 3: UNKNOWN: no such FINDING")
    static void linkOfNoFinding() {
        FewestCauses x = new FewestCauses();
        for (int f : Edges.outside(0, 11)) {
            Due.is("link(" + f + ", 0, 1)", x.link(f, 0, 1), UNKNOWN);
        }
        Due.is("many(3)", x.many(3), 0);
    }

    @Edge("Promise 3: UNKNOWN: no such CAUSE")
    static void linkOfNoCause() {
        FewestCauses x = new FewestCauses();
        for (int c : Edges.outside(0, 9)) {
            Due.is("link(0, " + c + ", 1)", x.link(0, c, 1), UNKNOWN);
        }
        Due.is("many(3)", x.many(3), 0);
    }

    @Edge("Promise 3: OUTSIDE: how is not 0, 1, 2; the LINK stays")
    static void linkOutside() {
        FewestCauses x = new FewestCauses();
        x.link(4, 4, 2);
        for (int how : Edges.outside(0, 2)) {
            Due.is("link(4, 4, " + how + ")", x.link(4, 4, how), OUTSIDE);
        }
        Due.is("it stays", x.link(4, 4, 2), 2);
    }

    @Edge("Promise 3: all 120 LINKS, none in another's place")
    static void allLinks() {
        FewestCauses x = new FewestCauses();
        for (int f = 0; f < 12; f++) {
            for (int c = 0; c < 10; c++) {
                Due.is("link(" + f + ", " + c + ")", x.link(f, c, (f + c) % 3), 0);
            }
        }
        for (int f = 0; f < 12; f++) {
            for (int c = 0; c < 10; c++) {
                Due.is("was (" + f + ", " + c + ")", x.link(f, c, 2), (f + c) % 3);
            }
        }
        Due.is("many(3)", x.many(3), 120);
    }

    @Edge("Promise 3: what follows from a LINK follows at once, and ends with it")
    static void linkTellsAtOnce() {
        FewestCauses x = new FewestCauses();
        x.tell(4, 1);
        Due.is("none", x.many(0), 0);
        x.link(4, 2, 1);
        Due.is("one", x.many(0), 1);
        x.link(4, 7, 2);
        Due.is("two", x.many(0), 2);
        Due.is("foretold by one", x.ofFinding(4, 3), 1);
        x.link(4, 7, 0);
        x.link(4, 2, 0);
        Due.is("none again", x.many(0), 0);
    }

    // ---- 4 ofCause

    @Edge("Promise 4: UNKNOWN: no such CAUSE, whatever is asked")
    static void ofNoCause() {
        FewestCauses x = Bench.twoWays();
        for (int c : Edges.outside(0, 9)) {
            Due.is("ofCause(" + c + ", 0)", x.ofCause(c, 0), UNKNOWN);
            Due.is("ofCause(" + c + ", 4)", x.ofCause(c, 4), UNKNOWN);
            Due.is("ofCause(" + c + ", 5)", x.ofCause(c, 5), UNKNOWN);
        }
    }

    @Edge("Promise 4: OUTSIDE: what is not 0 .. 5")
    static void ofCauseOutside() {
        FewestCauses x = Bench.twoWays();
        for (int what : Edges.outside(0, 5)) {
            Due.is("ofCause(9, " + what + ")", x.ofCause(9, what), OUTSIDE);
        }
    }

    @Edge("Promise 4: 0 a, 1 b, apart from one another, at 1 and at 20")
    static void ofCauseOdds() {
        FewestCauses x = new FewestCauses();
        x.cause(0, 1, 20);
        x.cause(9, 20, 1);
        Due.is("ofCause(0, 0)", x.ofCause(0, 0), 1);
        Due.is("ofCause(0, 1)", x.ofCause(0, 1), 20);
        Due.is("ofCause(9, 0)", x.ofCause(9, 0), 20);
        Due.is("ofCause(9, 1)", x.ofCause(9, 1), 1);
    }

    @Edge("Promise 4: 2, 3: the sets of FINDINGS, empty and full; MUST alone and with MAY")
    static void ofCauseSets() {
        FewestCauses x = new FewestCauses();
        Due.is("no LINK", x.ofCause(9, 2), 0);
        for (int f = 0; f < 12; f++) {
            x.link(f, 9, 1);
        }
        Due.is("all, MAY", x.ofCause(9, 2), 4095);
        Due.is("none of them MUST", x.ofCause(9, 3), 0);
        for (int f = 0; f < 12; f++) {
            x.link(f, 9, 2);
        }
        Due.is("all, MUST", x.ofCause(9, 3), 4095);
        Due.is("MUST is a LINK too", x.ofCause(9, 2), 4095);
        Due.is("another has none", x.ofCause(8, 2), 0);
    }

    @Edge("Promise 4: 4: whether it is EXCLUDED (1, 0)")
    static void ofCauseExcluded() {
        FewestCauses x = Bench.small();
        Due.is("none is ABSENT", x.ofCause(1, 4), 0);
        x.tell(0, 1);
        Due.is("it is THERE", x.ofCause(1, 4), 0);
        x.tell(0, 0);
        Due.is("MUST", x.ofCause(1, 4), 1);
        Due.is("MAY", x.ofCause(0, 4), 0);
        Due.is("no LINK", x.ofCause(2, 4), 0);
        x.back();
        Due.is("taken back", x.ofCause(1, 4), 0);
    }

    @Edge("Promise 4: 5: in how many EXPLANATIONS it is: in none, in one, in all, with no EXPLANATION")
    static void ofCauseInHowMany() {
        FewestCauses x = Bench.twoWays();
        Due.is("in none", x.ofCause(9, 5), 0);
        Due.is("in one", x.ofCause(1, 5), 1);
        x.tell(2, 1);
        Due.is("in all", x.ofCause(0, 5), 2);
        Due.is("of which there are", x.many(0), 2);
        x.tell(11, 1);
        Due.is("there is none", x.ofCause(0, 5), 0);
        FewestCauses y = new FewestCauses();
        Due.is("the empty set alone", y.ofCause(0, 5), 0);
    }

    // ---- 5 ofFinding

    @Edge("Promise 5: UNKNOWN: no such FINDING, whatever is asked")
    static void ofNoFinding() {
        FewestCauses x = Bench.twoWays();
        for (int f : Edges.outside(0, 11)) {
            Due.is("ofFinding(" + f + ", 0)", x.ofFinding(f, 0), UNKNOWN);
            Due.is("ofFinding(" + f + ", 1)", x.ofFinding(f, 1), UNKNOWN);
            Due.is("ofFinding(" + f + ", 4)", x.ofFinding(f, 4), UNKNOWN);
        }
    }

    @Edge("Promise 5: OUTSIDE: what is not 0 .. 4")
    static void ofFindingOutside() {
        FewestCauses x = Bench.twoWays();
        for (int what : Edges.outside(0, 4)) {
            Due.is("ofFinding(11, " + what + ")", x.ofFinding(11, what), OUTSIDE);
        }
    }

    @Edge("Promise 5: 0: UNASKED (0), THERE (1), ABSENT (2), while tell takes 1 and 0")
    static void ofFindingState() {
        FewestCauses x = new FewestCauses();
        for (int f : new int[] {0, 11}) {
            Due.is("UNASKED", x.ofFinding(f, 0), 0);
            x.tell(f, 1);
            Due.is("THERE", x.ofFinding(f, 0), 1);
            x.tell(f, 0);
            Due.is("ABSENT", x.ofFinding(f, 0), 2);
            x.withdraw(f);
            Due.is("UNASKED again", x.ofFinding(f, 0), 0);
        }
    }

    @Edge("Promise 5: 1, 2: the sets of CAUSES, empty and full; MUST alone and with MAY")
    static void ofFindingSets() {
        FewestCauses x = new FewestCauses();
        Due.is("no LINK", x.ofFinding(11, 1), 0);
        for (int c = 0; c < 10; c++) {
            x.link(11, c, 1);
        }
        Due.is("all, MAY", x.ofFinding(11, 1), 1023);
        Due.is("none of them MUST", x.ofFinding(11, 2), 0);
        for (int c = 0; c < 10; c++) {
            x.link(11, c, 2);
        }
        Due.is("all, MUST", x.ofFinding(11, 2), 1023);
        Due.is("MUST is a LINK too", x.ofFinding(11, 1), 1023);
        Due.is("another has none", x.ofFinding(10, 1), 0);
    }

    @Edge("Promise 5: 1: EXCLUDED CAUSES have their LINKS still")
    static void ofFindingWithExcludedCauses() {
        FewestCauses x = Bench.small();
        x.tell(0, 0);
        Due.is("linked", x.ofFinding(0, 1), 3);
        Due.is("MUST", x.ofFinding(0, 2), 2);
    }

    @Edge("Promise 5, Terms 2: 3: FORETOLD as THERE, if one of its CAUSES MUST, beside others that MAY")
    static void foretoldAsThere() {
        FewestCauses x = Bench.allNeeded();
        for (int c = 0; c < 9; c++) {
            x.link(11, c, 1);
        }
        Due.is("all MAY: OPEN", x.ofFinding(11, 3), 0);
        x.link(11, 9, 2);
        Due.is("one MUST", x.ofFinding(11, 3), 1);
        Due.is("not as ABSENT", x.ofFinding(11, 4), 0);
    }

    @Edge("Promise 5, Terms 2: 4: FORETOLD as ABSENT, if none of them has a LINK to it; one MAY leaves it OPEN")
    static void foretoldAsAbsent() {
        FewestCauses x = Bench.allNeeded();
        Due.is("no LINK", x.ofFinding(11, 4), 1);
        x.link(11, 9, 1);
        Due.is("one MAY: OPEN, not ABSENT", x.ofFinding(11, 4), 0);
        Due.is("nor THERE", x.ofFinding(11, 3), 0);
    }

    @Edge("Promise 5, Terms 2: LINKS of CAUSES that are not in the EXPLANATION foretell nothing")
    static void foretoldByItsCausesAlone() {
        FewestCauses x = Bench.twoCauses();
        x.link(5, 9, 2);
        Due.is("as ABSENT by both", x.ofFinding(5, 4), 2);
        Due.is("as THERE by none", x.ofFinding(5, 3), 0);
        x.link(5, 1, 2);
        Due.is("as ABSENT by one", x.ofFinding(5, 4), 1);
        Due.is("as THERE by one", x.ofFinding(5, 3), 1);
    }

    @Edge("Promise 5, Terms 2: the empty set FORETELLS each FINDING as ABSENT")
    static void foretoldByTheEmptySet() {
        FewestCauses x = Bench.small();
        for (int f = 0; f < 12; f++) {
            Due.is("ofFinding(" + f + ", 3)", x.ofFinding(f, 3), 0);
            Due.is("ofFinding(" + f + ", 4)", x.ofFinding(f, 4), 1);
        }
    }

    @Edge("Promise 5: 3, 4: with no EXPLANATION none FORETELLS")
    static void foretoldByNone() {
        FewestCauses x = Bench.hopeless();
        for (int f = 0; f < 12; f++) {
            Due.is("ofFinding(" + f + ", 3)", x.ofFinding(f, 3), 0);
            Due.is("ofFinding(" + f + ", 4)", x.ofFinding(f, 4), 0);
        }
    }

    @Edge("Promise 5: 3, 4: of a FINDING that is told already, too")
    static void foretoldThoughTold() {
        FewestCauses x = Bench.twoWays();
        Due.is("THERE, foretold by {1}", x.ofFinding(0, 3), 1);
        Due.is("THERE, OPEN by {0, 2}", x.ofFinding(0, 4), 0);
        x.tell(11, 0);
        Due.is("ABSENT, foretold by both", x.ofFinding(11, 4), 2);
    }

    // ---- 6 tell

    @Edge("Promise 6: whatever it was: from each of UNASKED, THERE, ABSENT to THERE and to ABSENT")
    static void tellFromEachToEach() {
        for (int was = 0; was <= 2; was++) {
            for (int is = 0; is <= 1; is++) {
                FewestCauses x = new FewestCauses();
                x.link(11, 8, 1);
                x.link(11, 9, 2);
                if (was != 0) {
                    x.tell(11, was == 1 ? 1 : 0);
                }
                Due.is("from " + was + " to " + is, x.tell(11, is), is == 1 ? 2 : 1);
                Due.is("it is", x.ofFinding(11, 0), is == 1 ? 1 : 2);
                Due.is("THERE", x.many(1), is == 1 ? 1 : 0);
                Due.is("ABSENT", x.many(2), is == 1 ? 0 : 1);
            }
        }
    }

    @Edge("Promise 6: how many EXPLANATIONS there are then: none, one, many")
    static void tellHowMany() {
        FewestCauses x = new FewestCauses();
        Due.is("none", x.tell(0, 1), 0);
        Due.is("one", x.tell(0, 0), 1);
        FewestCauses y = Bench.longList();
        Due.is("109", y.tell(11, 1), 109);
    }

    @Edge("Promise 6: all twelve FINDINGS, THERE and ABSENT")
    static void tellAll() {
        FewestCauses x = new FewestCauses();
        for (int f = 0; f < 12; f++) {
            x.link(f, f % 10, 1);
            x.tell(f, 1);
        }
        Due.is("all THERE", x.many(1), 12);
        Due.is("explained by all", x.explanation(0, 0), 1023);
        for (int f = 0; f < 12; f++) {
            Due.is("tell(" + f + ", 0)", x.tell(f, 0), 1);
        }
        Due.is("all ABSENT", x.many(2), 12);
        Due.is("none THERE", x.many(1), 0);
    }

    @Edge("Promise 6: UNKNOWN: no such FINDING")
    static void tellOfNoFinding() {
        FewestCauses x = new FewestCauses();
        for (int f : Edges.outside(0, 11)) {
            Due.is("tell(" + f + ", 1)", x.tell(f, 1), UNKNOWN);
            Due.is("tell(" + f + ", 0)", x.tell(f, 0), UNKNOWN);
        }
        Due.is("nothing is told", x.many(1) + x.many(2), 0);
        Due.is("nothing to take back", x.many(4), 0);
    }

    @Edge("Promise 6: OUTSIDE: is is neither 1 nor 0 (2, that would() takes, too)")
    static void tellOutside() {
        FewestCauses x = new FewestCauses();
        x.link(0, 0, 1);
        x.tell(0, 1);
        for (int is : Edges.outside(0, 1)) {
            Due.is("tell(0, " + is + ")", x.tell(0, is), OUTSIDE);
        }
        Due.is("it stays", x.ofFinding(0, 0), 1);
        Due.is("one to take back", x.many(4), 1);
    }

    // ---- 7 withdraw

    @Edge("Promise 7: a FINDING is UNASKED again: that was THERE")
    static void withdrawWhatIsThere() {
        FewestCauses x = Bench.twoWays();
        Due.is("withdraw(1)", x.withdraw(1), 2);
        Due.is("it is UNASKED", x.ofFinding(1, 0), 0);
        Due.is("the other stays", x.ofFinding(0, 0), 1);
    }

    @Edge("Promise 7: a FINDING is UNASKED again: that was ABSENT")
    static void withdrawWhatIsAbsent() {
        FewestCauses x = Bench.twoWays();
        x.tell(2, 0);
        Due.is("one", x.many(0), 1);
        Due.is("withdraw(2)", x.withdraw(2), 2);
        Due.is("it is UNASKED", x.ofFinding(2, 0), 0);
        Due.is("none is EXCLUDED", x.sets(2), 0);
    }

    @Edge("Promise 7: how many EXPLANATIONS there are then: none still")
    static void withdrawLeavesNone() {
        FewestCauses x = Bench.hopeless();
        Due.is("withdraw(0)", x.withdraw(0), 0);
        Due.is("withdraw(11)", x.withdraw(11), 2);
    }

    @Edge("Promise 7: STATE: it is UNASKED: never told, withdrawn, taken back, anew")
    static void withdrawWhatIsUnasked() {
        FewestCauses x = Bench.small();
        Due.is("never told", x.withdraw(0), STATE);
        x.tell(0, 1);
        x.withdraw(0);
        Due.is("withdrawn", x.withdraw(0), STATE);
        x.back();
        x.back();
        Due.is("taken back", x.withdraw(0), STATE);
        x.tell(0, 0);
        x.anew();
        Due.is("anew", x.withdraw(0), STATE);
        Due.is("nothing to take back", x.many(4), 0);
    }

    @Edge("Promise 7: UNKNOWN: no such FINDING")
    static void withdrawNoFinding() {
        FewestCauses x = new FewestCauses();
        for (int f = 0; f < 12; f++) {
            x.tell(f, 0);
        }
        for (int f : Edges.outside(0, 11)) {
            Due.is("withdraw(" + f + ")", x.withdraw(f), UNKNOWN);
        }
        Due.is("all stay", x.many(2), 12);
    }

    // ---- 8 back, and part 3 of the terms

    @Edge("Promise 8: STATE: there is nothing to be: at first, and when all is taken back")
    static void backOfNothing() {
        FewestCauses x = Bench.small();
        Due.is("at first", x.back(), STATE);
        x.tell(0, 1);
        x.tell(1, 1);
        Due.is("one", x.back(), 2);
        Due.is("two", x.back(), 1);
        Due.is("no more", x.back(), STATE);
        Due.is("none is told", x.many(1), 0);
    }

    @Edge("Promise 8: how many EXPLANATIONS there are then: none still")
    static void backToNone() {
        FewestCauses x = Bench.hopeless();
        x.tell(10, 1);
        Due.is("11 is THERE still", x.back(), 0);
        Due.is("it is not", x.back(), 2);
    }

    @Edge("Terms 3: the FINDING is as it was ahead of it: each of UNASKED, THERE, ABSENT, by tell")
    static void backOfTellFromEachToEach() {
        for (int was = 0; was <= 2; was++) {
            for (int is = 0; is <= 1; is++) {
                FewestCauses x = new FewestCauses();
                x.link(11, 9, 2);
                if (was != 0) {
                    x.tell(11, was == 1 ? 1 : 0);
                }
                x.tell(11, is);
                Due.is("back() to " + was + " from " + is, x.back(), 1);
                Due.is("it is as it was", x.ofFinding(11, 0), was);
                Due.is("EXCLUDED as it was", x.ofCause(9, 4), was == 2 ? 1 : 0);
                Due.is("CAUSES as they were", x.explanation(0, 0), was == 1 ? 512 : 0);
            }
        }
    }

    @Edge("Terms 3: the FINDING is as it was ahead of it: THERE, ABSENT, by withdraw")
    static void backOfWithdraw() {
        for (int is = 0; is <= 1; is++) {
            FewestCauses x = Bench.small();
            x.tell(2, is);
            x.withdraw(2);
            Due.is("back()", x.back(), 1);
            Due.is("it is as it was", x.ofFinding(2, 0), is == 1 ? 1 : 2);
        }
    }

    @Edge("Terms 3: the last first, whichever FINDING it is")
    static void theLastFirst() {
        FewestCauses x = new FewestCauses();
        x.tell(3, 1);
        x.tell(7, 0);
        x.tell(3, 0);
        x.withdraw(7);
        x.back();
        Due.is("7 is ABSENT again", x.ofFinding(7, 0), 2);
        Due.is("3 stays ABSENT", x.ofFinding(3, 0), 2);
        x.back();
        Due.is("3 is THERE again", x.ofFinding(3, 0), 1);
        Due.is("7 stays ABSENT", x.ofFinding(7, 0), 2);
        x.back();
        Due.is("7 is UNASKED again", x.ofFinding(7, 0), 0);
        x.back();
        Due.is("3 is UNASKED again", x.ofFinding(3, 0), 0);
    }

    @Edge("Terms 3: what was refused is not to be taken back")
    static void refusedIsNotTakenBack() {
        FewestCauses x = Bench.small();
        x.tell(0, 1);
        x.tell(0, 2);
        x.tell(12, 1);
        x.withdraw(1);
        x.withdraw(12);
        Due.is("one", x.many(4), 1);
        Due.is("back()", x.back(), 1);
        Due.is("finding 0", x.ofFinding(0, 0), 0);
        Due.is("no more", x.back(), STATE);
    }

    @Edge("Terms 3: what tell() did, as it was not refused: also when the FINDING was so already")
    static void tellingTheSameIsTakenBackToo() {
        FewestCauses x = Bench.small();
        x.tell(0, 1);
        x.tell(0, 1);
        Due.is("two", x.many(4), 2);
        Due.is("back()", x.back(), 2);
        Due.is("THERE still", x.ofFinding(0, 0), 1);
        Due.is("back()", x.back(), 1);
        Due.is("UNASKED", x.ofFinding(0, 0), 0);
    }

    @Edge("Terms 3: back() itself is not taken back")
    static void backIsNotTakenBack() {
        FewestCauses x = Bench.small();
        x.tell(0, 1);
        x.tell(0, 0);
        x.back();
        Due.is("one", x.many(4), 1);
        x.back();
        Due.is("UNASKED", x.ofFinding(0, 0), 0);
        Due.is("none", x.many(4), 0);
    }

    @Edge("Terms 3: 20 at most: 19, 20 and 21 told")
    static void twentyAtMost() {
        for (int told = 19; told <= 21; told++) {
            FewestCauses x = new FewestCauses();
            for (int i = 0; i < told; i++) {
                x.tell(i % 12, i < 12 ? 1 : 0);
            }
            int due = Math.min(20, told);
            Due.is("of " + told, x.many(4), due);
            for (int i = 0; i < due; i++) {
                Due.is("many(4) ahead of back " + i, x.many(4), due - i);
                Due.holds("back() " + i + " of " + told, x.back() >= 0);
            }
            Due.is("no more of " + told, x.back(), STATE);
            Due.is("what is left THERE", x.many(1), told - due);
            Due.is("FINDING 0", x.ofFinding(0, 0), told == 21 ? 1 : 0);
            Due.is("ABSENT", x.many(2), 0);
        }
    }

    @Edge("Terms 3: 20 at most: the oldest can no more, by tell and by withdraw")
    static void theOldestCanNoMore() {
        FewestCauses x = new FewestCauses();
        for (int i = 0; i < 12; i++) {
            x.tell(i, 0);
        }
        for (int i = 0; i < 11; i++) {
            x.withdraw(i);
        }
        // 23 in all: the first three, FINDINGS 0, 1, 2 told, can no more be taken back.
        Due.is("many(4)", x.many(4), 20);
        for (int i = 0; i < 20; i++) {
            x.back();
        }
        Due.is("no more", x.back(), STATE);
        Due.is("three are ABSENT", x.many(2), 3);
        Due.is("FINDING 2 is", x.ofFinding(2, 0), 2);
        Due.is("FINDING 3 is not", x.ofFinding(3, 0), 0);
    }

    @Edge("Terms 3: 20 at most: many times over, back and forth across the bound")
    static void backAndForthAcrossTheBound() {
        FewestCauses x = new FewestCauses();
        for (int i = 0; i < 67; i++) {
            x.tell(i % 12, i / 12 % 2);
        }
        Due.is("many(4)", x.many(4), 20);
        // Of 47 .. 66 five are taken back, 62 .. 66, and seven others told: 49 .. 61 and these are left.
        for (int i = 66; i >= 62; i--) {
            x.back();
            Due.is("as " + (i - 12) + " left it", x.ofFinding(i % 12, 0), (i - 12) / 12 % 2 == 1 ? 1 : 2);
        }
        Due.is("fifteen are left", x.many(4), 15);
        for (int i = 0; i < 7; i++) {
            x.withdraw(i);
            Due.is("after " + (i + 1) + " more", x.many(4), Math.min(20, 16 + i));
        }
        for (int i = 6; i >= 0; i--) {
            x.back();
            Due.holds("withdrawal of " + i + " is taken back", x.ofFinding(i, 0) != 0);
        }
        for (int i = 61; i >= 49; i--) {
            Due.is("ahead of back of " + i, x.ofFinding(i % 12, 0), i / 12 % 2 == 1 ? 1 : 2);
            x.back();
            Due.is("after back of " + i, x.ofFinding(i % 12, 0), i / 12 % 2 == 1 ? 2 : 1);
        }
        Due.is("no more", x.back(), STATE);
        Due.is("48 stays", x.ofFinding(0, 0), 2);
    }

    @Edge("Terms 3: cause() and link() leave that as it is")
    static void causeAndLinkLeaveWhatCanBeTakenBack() {
        FewestCauses x = Bench.twoWays();
        x.cause(0, 9, 9);
        x.link(0, 3, 2);
        x.link(0, 0, 0);
        Due.is("two", x.many(4), 2);
        Due.is("back()", x.back(), 2);
        Due.is("back()", x.back(), 1);
        Due.is("no more", x.back(), STATE);
        Due.is("ODDS stay", x.ofCause(0, 0), 9);
        Due.is("LINKS stay", x.ofFinding(0, 1), 10);
    }

    @Edge("Terms 3: back() answers by ODDS and LINKS as they are now")
    static void backGoesByTheLinksAsTheyAreNow() {
        FewestCauses x = Bench.twoWays();
        x.link(0, 5, 1);
        x.link(0, 6, 1);
        Due.is("back() of FINDING 1", x.back(), 4);
        x.cause(6, 20, 1);
        Due.is("the likeliest", x.explanation(0, 0), 64);
    }

    @Edge("Terms 3: anew() forgets it")
    static void anewForgets() {
        FewestCauses x = Bench.twoWays();
        x.anew();
        Due.is("many(4)", x.many(4), 0);
        Due.is("back()", x.back(), STATE);
        x.tell(2, 1);
        Due.is("many(4) from then on", x.many(4), 1);
        Due.is("back()", x.back(), 1);
        Due.is("no more", x.back(), STATE);
    }

    @Edge("Terms 3: would() and the PLAN are on paper, and not to be taken back")
    static void whatIsOnPaperIsNotTakenBack() {
        FewestCauses x = Bench.twoWays();
        x.would(5, 1);
        x.plan(0, 0);
        x.many(5);
        Due.is("many(4)", x.many(4), 2);
        x.back();
        Due.is("FINDING 1", x.ofFinding(1, 0), 0);
    }

    // ---- 9 anew

    @Edge("Promise 9: how many were not UNASKED: none")
    static void anewOfNone() {
        FewestCauses x = new FewestCauses();
        Due.is("anew()", x.anew(), 0);
        Due.is("anew() again", x.anew(), 0);
    }

    @Edge("Promise 9: how many were not UNASKED: all twelve, THERE and ABSENT")
    static void anewOfAll() {
        FewestCauses x = new FewestCauses();
        for (int f = 0; f < 12; f++) {
            x.tell(f, f % 2);
        }
        Due.is("anew()", x.anew(), 12);
        for (int f = 0; f < 12; f++) {
            Due.is("ofFinding(" + f + ", 0)", x.ofFinding(f, 0), 0);
        }
        Due.is("anew() again", x.anew(), 0);
    }

    @Edge("Promise 9: how many were not: FINDINGS, not calls; THERE alone, ABSENT alone, withdrawn")
    static void anewCountsFindings() {
        FewestCauses x = new FewestCauses();
        x.tell(0, 1);
        x.tell(0, 0);
        x.tell(0, 1);
        Due.is("one THERE", x.anew(), 1);
        x.tell(11, 0);
        Due.is("one ABSENT", x.anew(), 1);
        x.tell(5, 1);
        x.withdraw(5);
        Due.is("withdrawn", x.anew(), 0);
        Due.is("forgotten all the same", x.many(4), 0);
    }

    @Edge("Promise 9: ODDS and LINKS stay")
    static void anewLeavesOddsAndLinks() {
        FewestCauses x = Bench.twoWays();
        x.tell(2, 0);
        x.anew();
        Answers.same("anew", x, Bench.small());
    }

    @Edge("Promise 9: EXPLANATIONS after it: the empty set alone; none is EXCLUDED")
    static void anewLeavesTheEmptySet() {
        FewestCauses x = Bench.hopeless();
        x.tell(2, 0);
        Due.is("none ahead of it", x.many(0), 0);
        x.anew();
        Due.is("one", x.many(0), 1);
        Due.is("the empty set", x.explanation(0, 0), 0);
        Due.is("none EXCLUDED", x.sets(2), 0);
    }
}
