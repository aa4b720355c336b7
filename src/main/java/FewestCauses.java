/** A bench on which findings are explained by as few causes as will do. */
public final class FewestCauses {
    public static final int UNKNOWN = -1, OUTSIDE = -2, STATE = -3, NONE = -9;
    public static final long LOST = Long.MIN_VALUE;

    private static final int CAUSES = 10;
    private static final int ALL_CAUSES = (1 << CAUSES) - 1;
    private static final int FINDINGS = 12;
    private static final int MOST_ODDS = 20;
    private static final int MOST_BACK = 20;

    // No explanation holds another, and of the sets of ten things no more than 252 can be chosen so.
    private static final int MOST_EXPLANATIONS = 252;

    private static final int UNASKED = 0, THERE = 1, ABSENT = 2;
    private static final int OPEN = 0;
    private static final int NO_LINK = 0, MAY = 1, MUST = 2;

    private final Knowledge knowledge;
    private final Told told;
    private final History history;
    private final Listing listing;
    private boolean listed;

    // What is only thought through is written here, so that the bench itself stays as it is.
    private final Told toldOnPaper;
    private final Listing listingOnPaper;
    private final Split parts;
    private final Steps steps;
    private boolean planned;

    public FewestCauses() {
        knowledge = new Knowledge();
        told = new Told();
        history = new History();
        listing = new Listing(knowledge);
        toldOnPaper = new Told();
        listingOnPaper = new Listing(knowledge);
        parts = new Split();
        steps = new Steps();
    }

    // ---- 1 causes, findings

    public int cause(int c, int a, int b) {
        if (!isCause(c)) {
            return UNKNOWN;
        }
        if (!areOdds(a) || !areOdds(b)) {
            return OUTSIDE;
        }
        knowledge.oddsFor[c] = a;
        knowledge.oddsAgainst[c] = b;
        forgetWhatFollowed();
        return 1;
    }

    public int link(int f, int c, int how) {
        if (!isFinding(f) || !isCause(c)) {
            return UNKNOWN;
        }
        if (how != NO_LINK && how != MAY && how != MUST) {
            return OUTSIDE;
        }
        int before = knowledge.linkBetween(f, c);
        knowledge.putLink(f, c, how);
        forgetWhatFollowed();
        return before;
    }

    public int ofCause(int c, int what) {
        if (!isCause(c)) {
            return UNKNOWN;
        }
        switch (what) {
            case 0:
                return knowledge.oddsFor[c];
            case 1:
                return knowledge.oddsAgainst[c];
            case 2:
                return knowledge.linkedFindings[c];
            case 3:
                return knowledge.mustFindings[c];
            case 4:
                return has(knowledge.excludedBy(told.absent), c) ? 1 : 0;
            case 5:
                return upToDate().countWithCause(c);
            default:
                return OUTSIDE;
        }
    }

    public int ofFinding(int f, int what) {
        if (!isFinding(f)) {
            return UNKNOWN;
        }
        switch (what) {
            case 0:
                return told.stateOf(f);
            case 1:
                return knowledge.linkedCauses[f];
            case 2:
                return knowledge.mustCauses[f];
            case 3:
                return upToDate().countForetelling(f, THERE);
            case 4:
                return upToDate().countForetelling(f, ABSENT);
            default:
                return OUTSIDE;
        }
    }

    public int tell(int f, int is) {
        if (!isFinding(f)) {
            return UNKNOWN;
        }
        if (is != 0 && is != 1) {
            return OUTSIDE;
        }
        return changeFinding(f, is == 1 ? THERE : ABSENT);
    }

    public int withdraw(int f) {
        if (!isFinding(f)) {
            return UNKNOWN;
        }
        if (told.stateOf(f) == UNASKED) {
            return STATE;
        }
        return changeFinding(f, UNASKED);
    }

    public int back() {
        if (history.size == 0) {
            return STATE;
        }
        history.takeBackLast(told);
        forgetWhatFollowed();
        return upToDate().size;
    }

    public int anew() {
        int asked = Integer.bitCount(told.there | told.absent);
        told.there = 0;
        told.absent = 0;
        history.size = 0;
        forgetWhatFollowed();
        return asked;
    }

    // ---- 2 explanations

    public int explanation(int k, int what) {
        Listing all = upToDate();
        if (!all.isNumber(k)) {
            return UNKNOWN;
        }
        int set = all.setOf(k);
        switch (what) {
            case 0:
                return set;
            case 1:
                return Integer.bitCount(set);
            default:
                return OUTSIDE;
        }
    }

    public long weight(int k) {
        Listing all = upToDate();
        return all.isNumber(k) ? all.weightOf(k) : LOST;
    }

    public long share(int k, int which) {
        Listing all = upToDate();
        if (!all.isNumber(k) || !isUpperOrLower(which)) {
            return LOST;
        }
        return inLeastTerms(all.weightOf(k), all.total, which);
    }

    public int needs(int k, int c) {
        Listing all = upToDate();
        if (!all.isNumber(k) || !isCause(c)) {
            return UNKNOWN;
        }
        int set = all.setOf(k);
        return has(set, c) ? knowledge.neededFor(set, c, told.there) : NONE;
    }

    public int sets(int what) {
        switch (what) {
            case 0:
                return upToDate().causesInAll();
            case 1:
                return upToDate().causesInAny();
            case 2:
                return knowledge.excludedBy(told.absent);
            default:
                return OUTSIDE;
        }
    }

    public long belief(int c, int which) {
        if (!isCause(c) || !isUpperOrLower(which)) {
            return LOST;
        }
        Listing all = upToDate();
        if (all.size == 0) {
            return LOST;
        }
        return inLeastTerms(all.weightWithCause(c), all.total, which);
    }

    public int fewest(int what) {
        if (what < 0 || what > 2) {
            return OUTSIDE;
        }
        Listing all = upToDate();
        if (all.size == 0) {
            return NONE;
        }
        switch (what) {
            case 0:
                return all.fewestCauses();
            case 1:
                return all.mostCauses();
            default:
                return all.countOfLength(all.fewestCauses());
        }
    }

    public int covers(int set) {
        if (set < 0 || set > ALL_CAUSES) {
            return OUTSIDE;
        }
        boolean anyExcluded = (set & knowledge.excludedBy(told.absent)) != 0;
        if (anyExcluded || (told.there & ~knowledge.findingsOf(set)) != 0) {
            return 0;
        }
        return knowledge.canSpareOne(set, told.there) ? 1 : 2;
    }

    public int unexplained() {
        int usable = ALL_CAUSES & ~knowledge.excludedBy(told.absent);
        return told.there & ~knowledge.findingsOf(usable);
    }

    // ---- 3 what to ask

    public long split(int f, int what) {
        if (!isFinding(f) || what < 0 || what > 3 || told.stateOf(f) != UNASKED) {
            return LOST;
        }
        parts.weigh(upToDate(), f);
        switch (what) {
            case 0:
                return parts.there;
            case 1:
                return parts.absent;
            case 2:
                return parts.open;
            default:
                return parts.worst();
        }
    }

    public int next() {
        return bestToAsk(upToDate(), told);
    }

    public int would(int f, int is) {
        if (!isFinding(f)) {
            return UNKNOWN;
        }
        if (is < 0 || is > 2) {
            return OUTSIDE;
        }
        toldOnPaper.copyFrom(told);
        toldOnPaper.put(f, is == 1 ? THERE : is == 0 ? ABSENT : UNASKED);
        listingOnPaper.list(toldOnPaper);
        return listingOnPaper.size;
    }

    public int plan(int k, int what) {
        if (k < 0 || k >= FINDINGS || what < 0 || what > 2) {
            return OUTSIDE;
        }
        makePlan();
        if (k >= steps.size) {
            return NONE;
        }
        switch (what) {
            case 0:
                return steps.finding[k];
            case 1:
                return steps.takenAs[k] == THERE ? 1 : 0;
            default:
                return steps.explanationsLeft[k];
        }
    }

    public int many(int what) {
        switch (what) {
            case 0:
                return upToDate().size;
            case 1:
                return Integer.bitCount(told.there);
            case 2:
                return Integer.bitCount(told.absent);
            case 3:
                return knowledge.countLinks();
            case 4:
                return history.size;
            case 5:
                makePlan();
                return steps.size;
            default:
                return OUTSIDE;
        }
    }

    // ---- what the calls share

    private static boolean isCause(int c) {
        return c >= 0 && c < CAUSES;
    }

    private static boolean isFinding(int f) {
        return f >= 0 && f < FINDINGS;
    }

    private static boolean areOdds(int n) {
        return n >= 1 && n <= MOST_ODDS;
    }

    private static boolean isUpperOrLower(int which) {
        return which == 0 || which == 1;
    }

    private static boolean has(int set, int member) {
        return ((set >> member) & 1) != 0;
    }

    private void forgetWhatFollowed() {
        listed = false;
        planned = false;
    }

    private Listing upToDate() {
        if (!listed) {
            listing.list(told);
            listing.putInOrder();
            listed = true;
        }
        return listing;
    }

    private int changeFinding(int f, int state) {
        history.remember(f, told.stateOf(f));
        told.put(f, state);
        forgetWhatFollowed();
        return upToDate().size;
    }

    private int bestToAsk(Listing among, Told asked) {
        if (among.size < 2) {
            return NONE;
        }
        int best = NONE;
        long leastWorst = 0;
        for (int f = 0; f < FINDINGS; f++) {
            if (asked.stateOf(f) != UNASKED) {
                continue;
            }
            parts.weigh(among, f);
            long worst = parts.worst();
            if (best == NONE || worst < leastWorst) {
                best = f;
                leastWorst = worst;
            }
        }
        return best;
    }

    private void makePlan() {
        if (planned) {
            return;
        }
        steps.size = 0;
        toldOnPaper.copyFrom(told);
        listingOnPaper.list(toldOnPaper);
        for (int k = 0; k < FINDINGS; k++) {
            int f = bestToAsk(listingOnPaper, toldOnPaper);
            if (f == NONE) {
                break;
            }
            parts.weigh(listingOnPaper, f);
            int state = parts.leftIfThere() >= parts.leftIfAbsent() ? THERE : ABSENT;
            toldOnPaper.put(f, state);
            listingOnPaper.list(toldOnPaper);
            steps.add(f, state, listingOnPaper.size);
        }
        planned = true;
    }

    private static long inLeastTerms(long upper, long lower, int which) {
        long number = which == 0 ? upper : lower;
        long divisor = greatestDivisor(upper, lower);
        return divisor > 0 ? number / divisor : number;
    }

    private static long greatestDivisor(long x, long y) {
        long greater = x;
        long rest = y;
        // Every two rounds halve the numbers, so that 128 are enough for any longs.
        for (int i = 0; i < 128 && rest != 0; i++) {
            long remainder = greater % rest;
            greater = rest;
            rest = remainder;
        }
        return greater;
    }

    /** The odds and the links; each link is held from both sides, as either is asked for often. */
    private static final class Knowledge {
        final int[] oddsFor = new int[CAUSES];
        final int[] oddsAgainst = new int[CAUSES];
        final int[] linkedFindings = new int[CAUSES];
        final int[] mustFindings = new int[CAUSES];
        final int[] linkedCauses = new int[FINDINGS];
        final int[] mustCauses = new int[FINDINGS];

        Knowledge() {
            for (int c = 0; c < CAUSES; c++) {
                oddsFor[c] = 1;
                oddsAgainst[c] = 1;
            }
        }

        int linkBetween(int f, int c) {
            if (has(mustFindings[c], f)) {
                return MUST;
            }
            return has(linkedFindings[c], f) ? MAY : NO_LINK;
        }

        void putLink(int f, int c, int how) {
            linkedFindings[c] = with(linkedFindings[c], f, how != NO_LINK);
            mustFindings[c] = with(mustFindings[c], f, how == MUST);
            linkedCauses[f] = with(linkedCauses[f], c, how != NO_LINK);
            mustCauses[f] = with(mustCauses[f], c, how == MUST);
        }

        int countLinks() {
            int count = 0;
            for (int c = 0; c < CAUSES; c++) {
                count += Integer.bitCount(linkedFindings[c]);
            }
            return count;
        }

        int excludedBy(int absent) {
            int excluded = 0;
            for (int f = 0; f < FINDINGS; f++) {
                if (has(absent, f)) {
                    excluded |= mustCauses[f];
                }
            }
            return excluded;
        }

        int findingsOf(int causes) {
            int findings = 0;
            for (int c = 0; c < CAUSES; c++) {
                if (has(causes, c)) {
                    findings |= linkedFindings[c];
                }
            }
            return findings;
        }

        int neededFor(int causes, int c, int there) {
            return there & linkedFindings[c] & ~findingsOf(with(causes, c, false));
        }

        boolean canSpareOne(int causes, int there) {
            for (int c = 0; c < CAUSES; c++) {
                if (has(causes, c) && neededFor(causes, c, there) == 0) {
                    return true;
                }
            }
            return false;
        }

        /** What a set of causes foretells of a finding: THERE, ABSENT or OPEN. */
        int foretold(int causes, int f) {
            if ((causes & mustCauses[f]) != 0) {
                return THERE;
            }
            return (causes & linkedCauses[f]) == 0 ? ABSENT : OPEN;
        }

        private static int with(int set, int member, boolean in) {
            return in ? set | (1 << member) : set & ~(1 << member);
        }
    }

    /** Which findings are there and which are absent, as sets; the others are unasked. */
    private static final class Told {
        int there;
        int absent;

        int stateOf(int f) {
            if (has(there, f)) {
                return THERE;
            }
            return has(absent, f) ? ABSENT : UNASKED;
        }

        void put(int f, int state) {
            int others = ~(1 << f);
            there &= others;
            absent &= others;
            if (state == THERE) {
                there |= 1 << f;
            } else if (state == ABSENT) {
                absent |= 1 << f;
            }
        }

        void copyFrom(Told other) {
            there = other.there;
            absent = other.absent;
        }
    }

    /** What the findings were ahead of the last changes, the oldest first. */
    private static final class History {
        private final int[] finding = new int[MOST_BACK];
        private final int[] stateBefore = new int[MOST_BACK];
        int size;

        void remember(int f, int state) {
            if (size >= MOST_BACK) {
                dropOldest();
            }
            finding[size] = f;
            stateBefore[size] = state;
            size++;
        }

        void takeBackLast(Told told) {
            if (size > 0) {
                size--;
                told.put(finding[size], stateBefore[size]);
            }
        }

        private void dropOldest() {
            for (int i = 1; i < MOST_BACK; i++) {
                finding[i - 1] = finding[i];
                stateBefore[i - 1] = stateBefore[i];
            }
            size = MOST_BACK - 1;
        }
    }

    /** All explanations of what is told. */
    private static final class Listing {
        private static final int SET_BITS = CAUSES;
        private static final int LENGTH_BITS = 4;
        private static final int MOST_LENGTH = (1 << LENGTH_BITS) - 1;

        // Going over wide gaps first keeps the sorting short, also where all is the wrong way round.
        private static final int[] GAPS = {57, 23, 10, 4, 1};

        private final Knowledge knowledge;

        // Weight, shortness and lowness of a set in one number, so that the greater comes first:
        // a weight is at most 20 to the tenth, which leaves room enough in a long.
        private final long[] keys = new long[MOST_EXPLANATIONS];
        int size;
        long total;

        // What the search goes by: in reach[n] is what the first n causes can still explain.
        private final int[] reach = new int[CAUSES + 1];
        private int toExplain;
        private int excluded;

        Listing(Knowledge knowledge) {
            this.knowledge = knowledge;
        }

        void list(Told told) {
            size = 0;
            total = 0;
            toExplain = told.there;
            excluded = knowledge.excludedBy(told.absent);
            for (int c = 0; c < CAUSES; c++) {
                int ofThis = has(excluded, c) ? 0 : knowledge.linkedFindings[c];
                reach[c + 1] = reach[c] | ofThis;
            }
            choose(this, CAUSES, 0, 0, 0, 1L);
        }

        /**
         * Decides on the causes below undecided, the highest first. The findings in explained
         * have a cause in the set, those in once have just one: a cause that is alone for none
         * can be spared, and no further cause will change that.
         */
        private static void choose(Listing in, int undecided, int set, int explained, int once,
                long weight) {
            if (undecided < 0 || undecided > CAUSES) {
                return;
            }
            if ((in.toExplain & ~explained & ~in.reach[undecided]) != 0) {
                return;
            }
            if (undecided == 0) {
                in.enter(set, weight);
                return;
            }
            int c = undecided - 1;
            choose(in, c, set, explained, once, weight * in.knowledge.oddsAgainst[c]);
            if (has(in.excluded, c)) {
                return;
            }
            int more = in.toExplain & in.knowledge.linkedFindings[c];
            int setThen = set | (1 << c);
            int onceThen = (once & ~more) | (more & ~explained);
            if (in.allAreAloneForOne(setThen, onceThen)) {
                choose(in, c, setThen, explained | more, onceThen,
                        weight * in.knowledge.oddsFor[c]);
            }
        }

        private boolean allAreAloneForOne(int set, int once) {
            for (int c = 0; c < CAUSES; c++) {
                if (has(set, c) && (knowledge.linkedFindings[c] & once) == 0) {
                    return false;
                }
            }
            return true;
        }

        private void enter(int set, long weight) {
            if (size >= MOST_EXPLANATIONS) {
                return;
            }
            int shortness = MOST_LENGTH - Integer.bitCount(set);
            int lowness = ALL_CAUSES - set;
            long weightThenShortness = (weight << LENGTH_BITS) | shortness;
            keys[size] = (weightThenShortness << SET_BITS) | lowness;
            size++;
            total += weight;
        }

        void putInOrder() {
            for (int gap : GAPS) {
                for (int i = gap; i < size; i++) {
                    bringForward(i, gap);
                }
            }
        }

        private void bringForward(int from, int gap) {
            long key = keys[from];
            int at = from;
            while (at >= gap && keys[at - gap] < key) {
                keys[at] = keys[at - gap];
                at -= gap;
            }
            keys[at] = key;
        }

        boolean isNumber(int k) {
            return k >= 0 && k < size;
        }

        int setOf(int k) {
            return ALL_CAUSES - (int) (keys[k] & ALL_CAUSES);
        }

        long weightOf(int k) {
            return keys[k] >> (LENGTH_BITS + SET_BITS);
        }

        int countWithCause(int c) {
            int count = 0;
            for (int k = 0; k < size; k++) {
                if (has(setOf(k), c)) {
                    count++;
                }
            }
            return count;
        }

        long weightWithCause(int c) {
            long sum = 0;
            for (int k = 0; k < size; k++) {
                if (has(setOf(k), c)) {
                    sum += weightOf(k);
                }
            }
            return sum;
        }

        int countForetelling(int f, int state) {
            int count = 0;
            for (int k = 0; k < size; k++) {
                if (foretoldBy(k, f) == state) {
                    count++;
                }
            }
            return count;
        }

        int foretoldBy(int k, int f) {
            return knowledge.foretold(setOf(k), f);
        }

        int causesInAll() {
            int common = ALL_CAUSES;
            for (int k = 0; k < size; k++) {
                common &= setOf(k);
            }
            return common;
        }

        int causesInAny() {
            int any = 0;
            for (int k = 0; k < size; k++) {
                any |= setOf(k);
            }
            return any;
        }

        int fewestCauses() {
            int least = CAUSES;
            for (int k = 0; k < size; k++) {
                least = Math.min(least, Integer.bitCount(setOf(k)));
            }
            return least;
        }

        int mostCauses() {
            int most = 0;
            for (int k = 0; k < size; k++) {
                most = Math.max(most, Integer.bitCount(setOf(k)));
            }
            return most;
        }

        int countOfLength(int length) {
            int count = 0;
            for (int k = 0; k < size; k++) {
                if (Integer.bitCount(setOf(k)) == length) {
                    count++;
                }
            }
            return count;
        }
    }

    /** The weights of the explanations by what they foretell of one finding. */
    private static final class Split {
        long there;
        long absent;
        long open;

        void weigh(Listing all, int f) {
            there = 0;
            absent = 0;
            open = 0;
            for (int k = 0; k < all.size; k++) {
                long weight = all.weightOf(k);
                int foretold = all.foretoldBy(k, f);
                if (foretold == THERE) {
                    there += weight;
                } else if (foretold == ABSENT) {
                    absent += weight;
                } else {
                    open += weight;
                }
            }
        }

        long leftIfThere() {
            return there + open;
        }

        long leftIfAbsent() {
            return absent + open;
        }

        long worst() {
            return Math.max(leftIfThere(), leftIfAbsent());
        }
    }

    /** The steps of the plan, each finding at most once. */
    private static final class Steps {
        final int[] finding = new int[FINDINGS];
        final int[] takenAs = new int[FINDINGS];
        final int[] explanationsLeft = new int[FINDINGS];
        int size;

        void add(int f, int state, int left) {
            if (size >= FINDINGS) {
                return;
            }
            finding[size] = f;
            takenAs[size] = state;
            explanationsLeft[size] = left;
            size++;
        }
    }
}
