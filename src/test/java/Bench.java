/** Objects in a state that several tests begin with. */
final class Bench {
    private Bench() { }

    /** Finding 0 by causes 0 (MAY) and 1 (MUST), finding 1 by 1 (MAY) and 2 (MUST), 2 by 0 (MUST). */
    static FewestCauses small() {
        FewestCauses x = new FewestCauses();
        x.cause(0, 3, 4);
        x.cause(1, 2, 5);
        x.cause(2, 1, 6);
        x.link(0, 0, 1);
        x.link(0, 1, 2);
        x.link(1, 1, 1);
        x.link(1, 2, 2);
        x.link(2, 0, 2);
        return x;
    }

    /** Of small() findings 0 and 1 are THERE: {1} weighs 4 * 2 * 6 = 48, {0, 2} weighs 3 * 5 * 1 = 15. */
    static FewestCauses twoWays() {
        FewestCauses x = small();
        x.tell(0, 1);
        x.tell(1, 1);
        return x;
    }

    /** As twoWays(), but finding 11 is THERE too, to which no cause has a link: no set covers. */
    static FewestCauses hopeless() {
        FewestCauses x = twoWays();
        x.tell(11, 1);
        return x;
    }

    /** Finding c is THERE and has a link to cause c alone, for all ten causes: each is needed. */
    static FewestCauses allNeeded() {
        FewestCauses x = new FewestCauses();
        for (int c = 0; c < 10; c++) {
            x.link(c, c, 1);
            x.tell(c, 1);
        }
        return x;
    }

    /** Finding 0 is THERE and each of the ten causes may bring it about: {0}, {1} .. {9}. */
    static FewestCauses anyOne() {
        FewestCauses x = new FewestCauses();
        for (int c = 0; c < 10; c++) {
            x.link(0, c, 1);
        }
        x.tell(0, 1);
        return x;
    }

    /** Finding 0 is THERE and causes 0 and 1 may bring it about; no other link: {0} and {1}. */
    static FewestCauses twoCauses() {
        FewestCauses x = new FewestCauses();
        x.link(0, 0, 1);
        x.link(0, 1, 1);
        x.tell(0, 1);
        return x;
    }

    /** All twelve findings THERE, with links such that there are 109 explanations: no more were found. */
    static FewestCauses longList() {
        FewestCauses x = new FewestCauses();
        for (int f = 0; f < 12; f++) {
            for (int c = 0; c < 10; c++) {
                if ((LONG_LIST[f] >> c & 1) != 0) {
                    x.link(f, c, 1);
                }
            }
            x.tell(f, 1);
        }
        return x;
    }

    /** For each finding of longList() the causes that may bring it about. */
    static final int[] LONG_LIST = {489, 83, 980, 229, 178, 268, 643, 614, 874, 817, 573, 728};
}
