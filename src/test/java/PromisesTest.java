/** A function for each promise: ordinary inputs, the edges that the document names, wrong inputs. */
public final class PromisesTest {
    private static final int UNKNOWN = -1, OUTSIDE = -2, STATE = -3, NONE = -9;
    private static final long LOST = Due.LOST;
    private static final int LEAST = Integer.MIN_VALUE, MOST = Integer.MAX_VALUE;
    private static final int[] NO_CAUSE = {-1, 10, LEAST, MOST, 32, 64};
    private static final int[] NO_FINDING = {-1, 12, LEAST, MOST, 32, 64};

    public static void main(String[] args) {
        promise1();
        promise2();
        promise3();
        promise4();
        promise5();
        promise6();
        promise7();
        promise8();
        promise8Limit();
        promise9();
        promise10Order();
        promise11();
        promise12();
        promise13();
        promise14();
        promise15();
        promise16();
        promise17();
        promise18();
        promise19();
        promise20();
        promise21();
        promise22();
        promise22Ties();
        promise23();
        fewerAfterMany();
        refusalsChangeNothing();
        Due.end();
    }

    private static void promise1() {
        FewestCauses x = new FewestCauses();
        for (int c = 0; c < 10; c++) {
            Due.is("1 new ofCause(" + c + ", 0)", x.ofCause(c, 0), 1);
            Due.is("1 new ofCause(" + c + ", 1)", x.ofCause(c, 1), 1);
            Due.is("1 new ofCause(" + c + ", 2)", x.ofCause(c, 2), 0);
            Due.is("1 new ofCause(" + c + ", 3)", x.ofCause(c, 3), 0);
            Due.is("1 new ofCause(" + c + ", 4)", x.ofCause(c, 4), 0);
            Due.is("1 new ofCause(" + c + ", 5)", x.ofCause(c, 5), 0);
        }
        for (int f = 0; f < 12; f++) {
            Due.is("1 new ofFinding(" + f + ", 0)", x.ofFinding(f, 0), 0);
            Due.is("1 new ofFinding(" + f + ", 1)", x.ofFinding(f, 1), 0);
        }
        int[] counts = {1, 0, 0, 0, 0, 0};
        for (int what = 0; what < 6; what++) {
            Due.is("1 new many(" + what + ")", x.many(what), counts[what]);
        }
        Due.is("1 new explanation(0, 0)", x.explanation(0, 0), 0);
        Due.is("1 new back()", x.back(), STATE);
        FewestCauses other = Bench.small();
        Due.is("1 another object's link", other.many(3), 5);
        Due.is("1 objects are apart", x.many(3), 0);
    }

    private static void promise2() {
        FewestCauses x = new FewestCauses();
        Due.is("2 cause(0, 1, 20)", x.cause(0, 1, 20), 1);
        Due.is("2 cause(9, 20, 1)", x.cause(9, 20, 1), 1);
        Due.is("2 a of 0", x.ofCause(0, 0), 1);
        Due.is("2 b of 0", x.ofCause(0, 1), 20);
        Due.is("2 a of 9", x.ofCause(9, 0), 20);
        Due.is("2 b of 9", x.ofCause(9, 1), 1);
        Due.is("2 a of 1", x.ofCause(1, 0), 1);
        for (int wrong : new int[] {0, 21, -1, LEAST, MOST}) {
            Due.is("2 cause(0, " + wrong + ", 5)", x.cause(0, wrong, 5), OUTSIDE);
            Due.is("2 cause(0, 5, " + wrong + ")", x.cause(0, 5, wrong), OUTSIDE);
        }
        Due.is("2 a stays", x.ofCause(0, 0), 1);
        Due.is("2 b stays", x.ofCause(0, 1), 20);
        for (int c : NO_CAUSE) {
            Due.is("2 cause(" + c + ", 1, 1)", x.cause(c, 1, 1), UNKNOWN);
            Due.is("2 cause(" + c + ", 0, 0)", x.cause(c, 0, 0), UNKNOWN);
        }
        Due.is("2 weight after cause", x.weight(0), 20);
        x.cause(0, 1, 3);
        Due.is("2 weight after another", x.weight(0), 3);
    }

    private static void promise3() {
        FewestCauses x = new FewestCauses();
        Due.is("3 link(11, 9, 2)", x.link(11, 9, 2), 0);
        Due.is("3 link(11, 9, 1)", x.link(11, 9, 1), 2);
        Due.is("3 no MUST left", x.ofCause(9, 3), 0);
        Due.is("3 linked still", x.ofCause(9, 2), 1 << 11);
        Due.is("3 link(11, 9, 1) again", x.link(11, 9, 1), 1);
        Due.is("3 link(11, 9, 2)", x.link(11, 9, 2), 1);
        Due.is("3 link(11, 9, 0)", x.link(11, 9, 0), 2);
        Due.is("3 link(11, 9, 0) again", x.link(11, 9, 0), 0);
        Due.is("3 nothing is linked", x.ofFinding(11, 1) + x.ofFinding(11, 2) + x.ofCause(9, 2), 0);
        for (int how : new int[] {-1, 3, LEAST, MOST}) {
            Due.is("3 link(0, 0, " + how + ")", x.link(0, 0, how), OUTSIDE);
        }
        for (int c : NO_CAUSE) {
            Due.is("3 link(0, " + c + ", 9)", x.link(0, c, 9), UNKNOWN);
        }
        for (int f : NO_FINDING) {
            Due.is("3 link(" + f + ", 0, 1)", x.link(f, 0, 1), UNKNOWN);
        }
        Due.is("3 none was made", x.many(3), 0);
        x.tell(4, 1);
        x.link(4, 2, 1);
        Due.is("3 a link tells at once", x.many(0), 1);
        x.link(4, 2, 0);
        Due.is("3 and so does its end", x.many(0), 0);
    }

    private static void promise4() {
        FewestCauses x = Bench.small();
        x.tell(0, 1);
        x.tell(1, 1);
        int[] due = {2, 5, 0b11, 0b1, 0, 1};
        for (int what = 0; what < 6; what++) {
            Due.is("4 ofCause(1, " + what + ")", x.ofCause(1, what), due[what]);
        }
        x.link(5, 1, 1);
        x.link(6, 1, 2);
        Due.is("4 all linked", x.ofCause(1, 2), 0b1100011);
        Due.is("4 MUST alone", x.ofCause(1, 3), 0b1000001);
        x.tell(0, 0);
        Due.is("4 MUST of an ABSENT", x.ofCause(1, 4), 1);
        Due.is("4 MAY of an ABSENT", x.ofCause(0, 4), 0);
        Due.is("4 in none when EXCLUDED", x.ofCause(1, 5), 0);
        Due.is("4 in the other", x.ofCause(2, 5), 1);
        for (int what : new int[] {-1, 6, LEAST, MOST}) {
            Due.is("4 ofCause(0, " + what + ")", x.ofCause(0, what), OUTSIDE);
        }
        for (int c : NO_CAUSE) {
            Due.is("4 ofCause(" + c + ", 0)", x.ofCause(c, 0), UNKNOWN);
            Due.is("4 ofCause(" + c + ", 6)", x.ofCause(c, 6), UNKNOWN);
        }
    }

    private static void promise5() {
        FewestCauses x = Bench.small();
        x.tell(0, 1);
        x.tell(3, 0);
        Due.is("5 THERE", x.ofFinding(0, 0), 1);
        Due.is("5 ABSENT", x.ofFinding(3, 0), 2);
        Due.is("5 UNASKED", x.ofFinding(1, 0), 0);
        Due.is("5 linked", x.ofFinding(1, 1), 0b110);
        Due.is("5 must", x.ofFinding(1, 2), 0b100);
        x.link(11, 9, 2);
        x.link(11, 8, 1);
        x.link(11, 0, 2);
        Due.is("5 linked to 11", x.ofFinding(11, 1), 0b1100000001);
        Due.is("5 must of 11", x.ofFinding(11, 2), 0b1000000001);
        // The explanations are {0} and {1}.
        Due.is("5 foretold THERE of a told one", x.ofFinding(0, 3), 1);
        Due.is("5 foretold ABSENT of a told one", x.ofFinding(0, 4), 0);
        Due.is("5 OPEN is neither", x.ofFinding(1, 3), 0);
        Due.is("5 foretold ABSENT", x.ofFinding(1, 4), 1);
        Due.is("5 foretold ABSENT by all", x.ofFinding(3, 4), 2);
        for (int what : new int[] {-1, 5, LEAST, MOST}) {
            Due.is("5 ofFinding(0, " + what + ")", x.ofFinding(0, what), OUTSIDE);
        }
        for (int f : NO_FINDING) {
            Due.is("5 ofFinding(" + f + ", 0)", x.ofFinding(f, 0), UNKNOWN);
            Due.is("5 ofFinding(" + f + ", 5)", x.ofFinding(f, 5), UNKNOWN);
        }
    }

    private static void promise6() {
        FewestCauses x = Bench.small();
        Due.is("6 tell(0, 1)", x.tell(0, 1), 2);
        Due.is("6 tell(0, 1) again", x.tell(0, 1), 2);
        Due.is("6 it counts too", x.many(4), 2);
        Due.is("6 tell(0, 0)", x.tell(0, 0), 1);
        Due.is("6 it is ABSENT", x.ofFinding(0, 0), 2);
        Due.is("6 and no more THERE", x.many(1), 0);
        Due.is("6 tell(11, 1)", x.tell(11, 1), 0);
        for (int is : new int[] {-1, 2, LEAST, MOST}) {
            Due.is("6 tell(1, " + is + ")", x.tell(1, is), OUTSIDE);
        }
        for (int f : NO_FINDING) {
            Due.is("6 tell(" + f + ", 1)", x.tell(f, 1), UNKNOWN);
            Due.is("6 tell(" + f + ", 2)", x.tell(f, 2), UNKNOWN);
        }
        Due.is("6 refused ones are not taken back", x.many(4), 4);
    }

    private static void promise7() {
        FewestCauses x = Bench.small();
        x.tell(0, 1);
        x.tell(2, 0);
        Due.is("7 withdraw(2)", x.withdraw(2), 2);
        Due.is("7 withdraw(2) again", x.withdraw(2), STATE);
        Due.is("7 withdraw(0)", x.withdraw(0), 1);
        Due.is("7 it is UNASKED", x.ofFinding(0, 0), 0);
        Due.is("7 it can be taken back", x.many(4), 4);
        for (int f : NO_FINDING) {
            Due.is("7 withdraw(" + f + ")", x.withdraw(f), UNKNOWN);
        }
    }

    private static void promise8() {
        FewestCauses x = Bench.small();
        Due.is("8 nothing to be", x.back(), STATE);
        x.tell(0, 0);
        x.tell(0, 1);
        x.tell(1, 1);
        x.withdraw(0);
        Due.is("8 back to THERE", x.back(), 2);
        Due.is("8 finding 0 is THERE", x.ofFinding(0, 0), 1);
        x.link(0, 3, 1);
        x.cause(3, 5, 5);
        Due.is("8 cause and link leave it as it is", x.many(4), 3);
        Due.is("8 back of finding 1", x.back(), 3);
        Due.is("8 back to ABSENT", x.back(), 1);
        Due.is("8 finding 0 is ABSENT", x.ofFinding(0, 0), 2);
        Due.is("8 cause 1 is EXCLUDED", x.sets(2), 0b10);
        Due.is("8 back to UNASKED", x.back(), 1);
        Due.is("8 finding 0 is UNASKED", x.ofFinding(0, 0), 0);
        Due.is("8 nothing more", x.back(), STATE);
        Due.is("8 the link stays", x.many(3), 6);
    }

    private static void promise8Limit() {
        FewestCauses x = new FewestCauses();
        x.tell(11, 0);
        x.tell(10, 1);
        for (int i = 0; i < 20; i++) {
            Due.is("8 many(4) grows to 20", x.many(4), Math.min(20, i + 2));
            x.tell(i % 7, i % 2);
        }
        Due.is("8 twenty at most", x.many(4), 20);
        for (int i = 19; i >= 0; i--) {
            Due.is("8 the last first", x.ofFinding(i % 7, 0), i % 2 == 1 ? 1 : 2);
            x.back();
            Due.is("8 one less", x.many(4), i);
        }
        Due.is("8 no more than 20", x.back(), STATE);
        Due.is("8 the oldest stay (11)", x.ofFinding(11, 0), 2);
        Due.is("8 the oldest stay (10)", x.ofFinding(10, 0), 1);
        Due.is("8 the others are UNASKED", x.many(1) + x.many(2), 2);
    }

    private static void promise9() {
        FewestCauses x = Bench.small();
        Due.is("9 none", x.anew(), 0);
        x.tell(0, 1);
        x.tell(1, 0);
        x.tell(2, 1);
        x.withdraw(2);
        Due.is("9 two", x.anew(), 2);
        Due.is("9 THERE", x.many(1), 0);
        Due.is("9 ABSENT", x.many(2), 0);
        Due.is("9 it is forgotten", x.many(4), 0);
        Due.is("9 back", x.back(), STATE);
        Due.is("9 one explanation", x.many(0), 1);
        Due.is("9 links stay", x.many(3), 5);
        Due.is("9 odds stay", x.ofCause(0, 1), 4);
        x.tell(0, 1);
        x.withdraw(0);
        Due.is("9 none again", x.anew(), 0);
        Due.is("9 forgets, though none was asked", x.many(4), 0);
    }

    private static void promise10Order() {
        FewestCauses x = new FewestCauses();
        // {0}, {1}, {2, 3} and {2, 4}: first all weigh 1.
        x.link(0, 0, 1);
        x.link(0, 1, 1);
        x.link(0, 2, 1);
        x.link(1, 0, 1);
        x.link(1, 1, 1);
        x.link(1, 3, 1);
        x.link(1, 4, 1);
        x.tell(0, 1);
        x.tell(1, 1);
        order(x, "alike", 0b1, 0b10, 0b1100, 0b10100);
        x.cause(4, 2, 1);
        order(x, "4 is likely", 0b10100, 0b1, 0b10, 0b1100);
        x.cause(4, 1, 1);
        x.cause(0, 1, 2);
        order(x, "0 is unlikely", 0b10, 0b1100, 0b10100, 0b1);
        for (int k : new int[] {-1, 4, 251, 252, LEAST, MOST}) {
            Due.is("10 explanation(" + k + ", 0)", x.explanation(k, 0), UNKNOWN);
            Due.is("10 explanation(" + k + ", 5)", x.explanation(k, 5), UNKNOWN);
        }
        for (int what : new int[] {-1, 2, LEAST, MOST}) {
            Due.is("10 explanation(0, " + what + ")", x.explanation(0, what), OUTSIDE);
        }
        x.tell(9, 1);
        Due.is("10 there is none", x.explanation(0, 0), UNKNOWN);
    }

    private static void order(FewestCauses x, String when, int... sets) {
        Due.is("10 " + when + ": many(0)", x.many(0), sets.length);
        for (int k = 0; k < sets.length; k++) {
            Due.is("10 " + when + ": explanation(" + k + ", 0)", x.explanation(k, 0), sets[k]);
            Due.is("10 " + when + ": explanation(" + k + ", 1)", x.explanation(k, 1),
                    Integer.bitCount(sets[k]));
        }
    }

    private static void promise11() {
        FewestCauses x = Bench.small();
        Due.is("11 of the empty set", x.weight(0), 4 * 5 * 6);
        x.tell(0, 1);
        Due.is("11 of {0}", x.weight(0), 3 * 5 * 6);
        Due.is("11 of {1}", x.weight(1), 4 * 2 * 6);
        for (int k : new int[] {-1, 2, 252, LEAST, MOST}) {
            Due.is("11 weight(" + k + ")", x.weight(k), LOST);
        }
        for (int c = 0; c < 10; c++) {
            x.cause(c, 20, 20);
        }
        Due.is("11 the greatest", x.weight(1), 10_240_000_000_000L);
        x.tell(9, 1);
        Due.is("11 there is none", x.weight(0), LOST);
    }

    private static void promise12() {
        FewestCauses x = Bench.small();
        Due.is("12 one alone, upper", x.share(0, 0), 1);
        Due.is("12 one alone, lower", x.share(0, 1), 1);
        x.tell(0, 1);
        Due.is("12 upper of 90 by 138", x.share(0, 0), 15);
        Due.is("12 lower of 90 by 138", x.share(0, 1), 23);
        Due.is("12 upper of 48 by 138", x.share(1, 0), 8);
        Due.is("12 lower of 48 by 138", x.share(1, 1), 23);
        for (int wrong : new int[] {-1, 2, LEAST, MOST}) {
            Due.is("12 share(0, " + wrong + ")", x.share(0, wrong), LOST);
            Due.is("12 share(" + wrong + ", 0)", x.share(wrong, 0), LOST);
        }
        for (int c = 0; c < 10; c++) {
            x.cause(c, 20 - c, 19);
        }
        Due.is("12 large upper", x.share(0, 0), 20);
        Due.is("12 large lower", x.share(0, 1), 39);
    }

    private static void promise13() {
        FewestCauses x = Bench.small();
        x.link(3, 0, 1);
        x.link(3, 1, 1);
        x.link(3, 2, 1);
        x.tell(0, 1);
        x.tell(1, 1);
        x.tell(3, 1);
        x.tell(2, 0);
        Due.is("13 {1} alone", x.explanation(0, 0), 0b10);
        Due.is("13 needed for all", x.needs(0, 1), 0b1011);
        x.tell(2, 1);
        // {0, 1} and {0, 2}: finding 3 has both of either, finding 0 both of the first.
        Due.is("13 {0, 1} first", x.explanation(0, 0), 0b11);
        Due.is("13 needs(0, 0)", x.needs(0, 0), 0b100);
        Due.is("13 needs(0, 1)", x.needs(0, 1), 0b10);
        Due.is("13 needs(1, 0)", x.needs(1, 0), 0b101);
        Due.is("13 needs(1, 2)", x.needs(1, 2), 0b10);
        Due.is("13 not in it", x.needs(0, 2), NONE);
        Due.is("13 not in it, and never", x.needs(0, 9), NONE);
        for (int c : NO_CAUSE) {
            Due.is("13 needs(0, " + c + ")", x.needs(0, c), UNKNOWN);
        }
        for (int k : new int[] {-1, 2, 252, LEAST, MOST}) {
            Due.is("13 needs(" + k + ", 0)", x.needs(k, 0), UNKNOWN);
        }
    }

    private static void promise14() {
        FewestCauses x = Bench.small();
        Due.is("14 empty set, in all", x.sets(0), 0);
        Due.is("14 empty set, in any", x.sets(1), 0);
        x.tell(0, 1);
        x.tell(2, 1);
        x.tell(1, 1);
        Due.is("14 in all", x.sets(0), 0b1);
        Due.is("14 in any", x.sets(1), 0b111);
        Due.is("14 none EXCLUDED", x.sets(2), 0);
        x.tell(2, 0);
        x.tell(0, 0);
        Due.is("14 two EXCLUDED", x.sets(2), 0b11);
        x.tell(1, 0);
        Due.is("14 three EXCLUDED", x.sets(2), 0b111);
        x.tell(2, 1);
        Due.is("14 {0} alone", x.sets(0), 0b1);
        x.tell(9, 1);
        Due.is("14 all, if there is none", x.sets(0), 1023);
        Due.is("14 any of none", x.sets(1), 0);
        Due.is("14 EXCLUDED all the same", x.sets(2), 0b110);
        for (int what : new int[] {-1, 3, LEAST, MOST}) {
            Due.is("14 sets(" + what + ")", x.sets(what), OUTSIDE);
        }
    }

    private static void promise15() {
        FewestCauses x = Bench.small();
        Due.is("15 0 by 1, upper", x.belief(0, 0), 0);
        Due.is("15 0 by 1, lower", x.belief(0, 1), 1);
        x.tell(0, 1);
        x.tell(1, 1);
        // {1} weighs 4*2*6 = 48, {0, 2} weighs 3*5*1 = 15.
        Due.is("15 belief(0, 0)", x.belief(0, 0), 5);
        Due.is("15 belief(0, 1)", x.belief(0, 1), 21);
        Due.is("15 belief(1, 0)", x.belief(1, 0), 16);
        Due.is("15 belief(1, 1)", x.belief(1, 1), 21);
        Due.is("15 in none, upper", x.belief(9, 0), 0);
        Due.is("15 in none, lower", x.belief(9, 1), 1);
        x.tell(2, 1);
        Due.is("15 in all, upper", x.belief(0, 0), 1);
        Due.is("15 in all, lower", x.belief(0, 1), 1);
        for (int which : new int[] {-1, 2, LEAST, MOST}) {
            Due.is("15 belief(0, " + which + ")", x.belief(0, which), LOST);
        }
        for (int c : NO_CAUSE) {
            Due.is("15 belief(" + c + ", 0)", x.belief(c, 0), LOST);
        }
        x.tell(9, 1);
        Due.is("15 there is none, upper", x.belief(0, 0), LOST);
        Due.is("15 there is none, lower", x.belief(0, 1), LOST);
    }

    private static void promise16() {
        FewestCauses x = Bench.small();
        Due.is("16 empty, fewest", x.fewest(0), 0);
        Due.is("16 empty, most", x.fewest(1), 0);
        Due.is("16 empty, how many", x.fewest(2), 1);
        x.tell(0, 1);
        x.tell(1, 1);
        x.link(0, 4, 1);
        x.link(0, 5, 1);
        x.link(1, 5, 1);
        // {1}, {5}, {0, 2}, {2, 4}
        Due.is("16 fewest", x.fewest(0), 1);
        Due.is("16 most", x.fewest(1), 2);
        Due.is("16 how many", x.fewest(2), 2);
        x.cause(0, 20, 1);
        x.cause(2, 20, 1);
        Due.is("16 the first has the most now", x.explanation(0, 0), 0b101);
        Due.is("16 fewest of the later", x.fewest(0), 1);
        Due.is("16 most of the first", x.fewest(1), 2);
        Due.is("16 how many of the later", x.fewest(2), 2);
        for (int what : new int[] {-1, 3, LEAST, MOST}) {
            Due.is("16 fewest(" + what + ")", x.fewest(what), OUTSIDE);
        }
        x.tell(9, 1);
        for (int what = 0; what < 3; what++) {
            Due.is("16 there is none, " + what, x.fewest(what), NONE);
        }
        Due.is("16 a refusal goes ahead of NONE", x.fewest(3), OUTSIDE);
    }

    private static void promise17() {
        FewestCauses x = Bench.small();
        Due.is("17 covers(0) of nothing", x.covers(0), 2);
        Due.is("17 covers(1023) of nothing", x.covers(1023), 1);
        x.tell(0, 1);
        x.tell(1, 1);
        Due.is("17 covers(2)", x.covers(0b10), 2);
        Due.is("17 covers(5)", x.covers(0b101), 2);
        Due.is("17 covers(7)", x.covers(0b111), 1);
        Due.is("17 covers(18)", x.covers(0b10010), 1);
        Due.is("17 covers(3), 0 can be spared", x.covers(0b11), 1);
        Due.is("17 covers(514), 9 can be spared", x.covers(0b1000000010), 1);
        Due.is("17 covers(1)", x.covers(0b1), 0);
        Due.is("17 covers(0)", x.covers(0), 0);
        x.tell(2, 0);
        Due.is("17 with an EXCLUDED one", x.covers(0b101), 0);
        Due.is("17 with an EXCLUDED one more", x.covers(0b11), 0);
        Due.is("17 without", x.covers(0b110), 1);
        for (int set : new int[] {-1, 1024, LEAST, MOST}) {
            Due.is("17 covers(" + set + ")", x.covers(set), OUTSIDE);
        }
    }

    private static void promise18() {
        FewestCauses x = Bench.small();
        Due.is("18 nothing is there", x.unexplained(), 0);
        x.tell(0, 1);
        x.tell(11, 1);
        x.tell(10, 0);
        Due.is("18 one without a LINK", x.unexplained(), 1 << 11);
        x.tell(2, 0);
        Due.is("18 one is left", x.unexplained(), 1 << 11);
        x.link(3, 1, 2);
        x.tell(3, 0);
        Due.is("18 both are EXCLUDED", x.unexplained(), 1 << 11 | 1);
        x.tell(1, 1);
        Due.is("18 cause 2 has finding 1", x.unexplained(), 1 << 11 | 1);
    }

    private static void promise19() {
        FewestCauses x = Bench.small();
        x.tell(0, 1);
        x.tell(1, 1);
        x.link(3, 1, 2);
        x.link(4, 0, 1);
        x.link(4, 2, 1);
        // {1} weighs 48, {0, 2} weighs 15.
        parts(x, 2, 15, 48, 0, 48);
        parts(x, 3, 48, 15, 0, 48);
        parts(x, 4, 0, 48, 15, 63);
        parts(x, 5, 0, 63, 0, 63);
        x.link(4, 0, 2);
        parts(x, 4, 15, 48, 0, 48);
        x.link(4, 1, 1);
        parts(x, 4, 15, 0, 48, 63);
        Due.is("19 THERE", x.split(0, 0), LOST);
        x.tell(5, 0);
        Due.is("19 ABSENT", x.split(5, 0), LOST);
        for (int what : new int[] {-1, 4, LEAST, MOST}) {
            Due.is("19 split(2, " + what + ")", x.split(2, what), LOST);
        }
        for (int f : NO_FINDING) {
            Due.is("19 split(" + f + ", 0)", x.split(f, 0), LOST);
        }
        x.tell(11, 1);
        parts(x, 2, 0, 0, 0, 0);
    }

    private static void parts(FewestCauses x, int f, long there, long absent, long open, long worst) {
        Due.is("19 split(" + f + ", 0)", x.split(f, 0), there);
        Due.is("19 split(" + f + ", 1)", x.split(f, 1), absent);
        Due.is("19 split(" + f + ", 2)", x.split(f, 2), open);
        Due.is("19 split(" + f + ", 3)", x.split(f, 3), worst);
    }

    private static void promise20() {
        FewestCauses x = Bench.small();
        Due.is("20 one explanation", x.next(), NONE);
        x.tell(0, 1);
        // {0} weighs 90, {1} weighs 48: 1 is OPEN for {1}, 2 is there by {0} alone.
        Due.is("20 the least WORST", x.next(), 2);
        x.link(5, 1, 2);
        Due.is("20 the least of several", x.next(), 2);
        x.tell(2, 1);
        Due.is("20 one is left", x.next(), NONE);
        x.withdraw(2);
        x.link(2, 0, 0);
        Due.is("20 the other", x.next(), 5);
        x.link(5, 1, 0);
        Due.is("20 all alike", x.next(), 1);
        for (int f = 1; f < 12; f++) {
            x.link(f, 3, 1);
            if (f < 11) {
                x.tell(f, 0);
            }
        }
        Due.is("20 the only UNASKED", x.next(), 11);
        x.tell(11, 0);
        Due.is("20 two explanations still", x.many(0), 2);
        Due.is("20 none is UNASKED", x.next(), NONE);
        x.anew();
        x.tell(11, 1);
        x.link(11, 3, 0);
        Due.is("20 no explanation", x.next(), NONE);
        x.link(11, 0, 1);
        x.link(11, 2, 1);
        x.link(0, 0, 2);
        Due.is("20 finding 0", x.next(), 0);
    }

    private static void promise21() {
        FewestCauses x = Bench.small();
        x.tell(0, 1);
        x.tell(1, 1);
        Due.is("21 would(2, 1)", x.would(2, 1), 2);
        Due.is("21 would(2, 0)", x.would(2, 0), 1);
        Due.is("21 would(2, 2)", x.would(2, 2), 2);
        Due.is("21 would(0, 0)", x.would(0, 0), 1);
        Due.is("21 would(0, 2)", x.would(0, 2), 2);
        Due.is("21 would(0, 1)", x.would(0, 1), 2);
        Due.is("21 would(9, 1)", x.would(9, 1), 0);
        Due.is("21 nothing is changed", x.many(0), 2);
        Due.is("21 nothing is told", x.many(1), 2);
        Due.is("21 nothing to take back", x.many(4), 2);
        Due.is("21 finding 0 stays", x.ofFinding(0, 0), 1);
        Due.is("21 explanation 0 stays", x.explanation(0, 0), 0b10);
        for (int is : new int[] {-1, 3, LEAST, MOST}) {
            Due.is("21 would(0, " + is + ")", x.would(0, is), OUTSIDE);
        }
        for (int f : NO_FINDING) {
            Due.is("21 would(" + f + ", 0)", x.would(f, 0), UNKNOWN);
            Due.is("21 would(" + f + ", 3)", x.would(f, 3), UNKNOWN);
        }
    }

    private static void promise22() {
        FewestCauses x = new FewestCauses();
        Due.is("22 no step", x.plan(0, 0), NONE);
        Due.is("22 no twelfth step", x.plan(11, 2), NONE);
        for (int c = 0; c < 4; c++) {
            x.link(0, c, 1);
        }
        x.link(1, 0, 2);
        x.link(1, 1, 2);
        x.link(2, 0, 2);
        x.link(2, 2, 2);
        x.cause(1, 2, 1);
        x.tell(0, 1);
        // {0} 1, {1} 2, {2} 1, {3} 1: finding 1 leaves 3 or 2, finding 2 leaves 2 or 3.
        step(x, 0, 1, 1, 2);
        step(x, 1, 2, 0, 1);
        step(x, 2, NONE, NONE, NONE);
        Due.is("22 steps", x.many(5), 2);
        Due.is("22 on paper alone", x.many(0), 4);
        Due.is("22 nothing is told", x.many(1) + x.many(2), 1);
        Due.is("22 would leaves it", x.would(1, 0), 2);
        step(x, 1, 2, 0, 1);
        x.cause(3, 9, 1);
        // {0} 1, {1} 2, {2} 1, {3} 9: finding 1 leaves 3 or 10, finding 2 leaves 2 or 11.
        step(x, 0, 1, 0, 2);
        step(x, 1, 2, 0, 1);
        x.tell(1, 1);
        step(x, 0, 2, 0, 1);
        step(x, 1, NONE, NONE, NONE);
        for (int k : new int[] {-1, 12, LEAST, MOST}) {
            Due.is("22 plan(" + k + ", 0)", x.plan(k, 0), OUTSIDE);
        }
        for (int what : new int[] {-1, 3, LEAST, MOST}) {
            Due.is("22 plan(0, " + what + ")", x.plan(0, what), OUTSIDE);
            Due.is("22 plan(11, " + what + "), ahead of NONE", x.plan(11, what), OUTSIDE);
        }
    }

    private static void promise22Ties() {
        FewestCauses x = new FewestCauses();
        x.link(0, 0, 1);
        x.link(0, 1, 1);
        x.link(1, 0, 2);
        x.link(1, 5, 1);
        x.link(1, 6, 1);
        x.tell(0, 1);
        // Both answers to finding 1 leave 1; THERE brings {1, 5} and {1, 6} beside {0}.
        step(x, 0, 1, 1, 3);
        // {0}, {1, 5}, {1, 6}: each foretells the rest as ABSENT, the least is asked first.
        step(x, 1, 2, 0, 3);
        step(x, 9, 10, 0, 3);
        step(x, 10, 11, 0, 3);
        step(x, 11, NONE, NONE, NONE);
        Due.is("22 steps", x.many(5), 11);
    }

    private static void step(FewestCauses x, int k, int finding, int there, int left) {
        Due.is("22 plan(" + k + ", 0)", x.plan(k, 0), finding);
        Due.is("22 plan(" + k + ", 1)", x.plan(k, 1), there);
        Due.is("22 plan(" + k + ", 2)", x.plan(k, 2), left);
    }

    private static void promise23() {
        FewestCauses x = Bench.small();
        x.tell(0, 1);
        x.tell(1, 1);
        x.tell(11, 0);
        x.link(11, 9, 1);
        x.link(10, 9, 2);
        x.link(10, 9, 2);
        x.link(2, 0, 0);
        int[] due = {2, 2, 1, 6, 3, 9};
        for (int what = 0; what < 6; what++) {
            Due.is("23 many(" + what + ")", x.many(what), due[what]);
        }
        for (int what : new int[] {-1, 6, LEAST, MOST}) {
            Due.is("23 many(" + what + ")", x.many(what), OUTSIDE);
        }
    }

    /** What a longer list held is not counted, when a shorter one follows it. */
    private static void fewerAfterMany() {
        FewestCauses x = new FewestCauses();
        for (int f = 0; f < 5; f++) {
            x.link(f, 2 * f, 2);
            x.link(f, 2 * f + 1, 2);
            Due.is("fewer: tell(" + f + ", 1)", x.tell(f, 1), 2 << f);
        }
        for (int f = 4; f > 0; f--) {
            Due.is("fewer: back()", x.back(), 1 << f);
            Due.is("fewer: in any", x.sets(1), (1 << 2 * f) - 1);
            Due.is("fewer: in all", x.sets(0), 0);
            Due.is("fewer: fewest", x.fewest(0), f);
            Due.is("fewer: most", x.fewest(1), f);
            Due.is("fewer: how many", x.fewest(2), 1 << f);
            Due.is("fewer: with cause 0", x.ofCause(0, 5), 1 << f - 1);
            Due.is("fewer: with the last", x.ofCause(9, 5), 0);
            Due.is("fewer: foretold THERE", x.ofFinding(0, 3), 1 << f);
            Due.is("fewer: foretold ABSENT", x.ofFinding(f, 4), 1 << f);
            Due.is("fewer: belief", x.belief(1, 1), 2);
            Due.is("fewer: weights ABSENT", x.split(f, 1), 1 << f);
            Due.is("fewer: the last", x.weight((1 << f) - 1), 1);
            Due.is("fewer: one more", x.weight(1 << f), LOST);
        }
        Due.is("fewer: back() to the first", x.back(), 1);
        Due.is("fewer: the empty set, all", x.sets(0), 0);
        Due.is("fewer: the empty set, any", x.sets(1), 0);
    }

    private static void refusalsChangeNothing() {
        FewestCauses x = Bench.small();
        x.tell(0, 1);
        x.tell(1, 1);
        x.cause(0, 0, 9);
        x.cause(10, 9, 9);
        x.link(0, 0, 3);
        x.link(12, 0, 1);
        x.tell(2, 2);
        x.tell(12, 1);
        x.withdraw(5);
        x.withdraw(-1);
        Due.is("refused: odds", x.ofCause(0, 0) * 100 + x.ofCause(0, 1), 304);
        Due.is("refused: links", x.many(3), 5);
        Due.is("refused: explanations", x.many(0), 2);
        Due.is("refused: what can be taken back", x.many(4), 2);
        Due.is("refused: weight", x.weight(0), 48);
    }
}
