import java.util.ArrayList;
import java.util.List;

/** All that an object answers, so that two can be held side by side within their 512 calls. */
final class Answers {
    private static final int MOST_LOOKED_AT = 4;

    private final FewestCauses x;
    private final List<String> calls = new ArrayList<>();
    private final List<Long> answers = new ArrayList<>();

    private Answers(FewestCauses x) {
        this.x = x;
        ofEach();
        ofExplanations();
        ofSets();
        ofAsking();
        ofTakingBack();
    }

    /** Takes back all that can be, in both. */
    static void same(String when, FewestCauses one, FewestCauses other) {
        Answers a = new Answers(one);
        Answers b = new Answers(other);
        for (int i = 0; i < a.calls.size() && i < b.calls.size(); i++) {
            Due.is(when + ": " + a.calls.get(i), a.answers.get(i), b.answers.get(i));
        }
        Due.is(when + ": how many answers", a.calls.size(), b.calls.size());
    }

    private long put(String call, long answer) {
        calls.add(call);
        answers.add(answer);
        return answer;
    }

    private void ofEach() {
        for (int c = 0; c < 10; c++) {
            for (int what = 0; what < 6; what++) {
                put("ofCause(" + c + ", " + what + ")", x.ofCause(c, what));
            }
        }
        for (int f = 0; f < 12; f++) {
            for (int what = 0; what < 5; what++) {
                put("ofFinding(" + f + ", " + what + ")", x.ofFinding(f, what));
            }
        }
        for (int what = 0; what < 6; what++) {
            put("many(" + what + ")", x.many(what));
        }
    }

    private void ofExplanations() {
        for (int k = 0; k < MOST_LOOKED_AT; k++) {
            put("explanation(" + k + ", 0)", x.explanation(k, 0));
            put("explanation(" + k + ", 1)", x.explanation(k, 1));
            put("weight(" + k + ")", x.weight(k));
            put("share(" + k + ", 0)", x.share(k, 0));
            put("share(" + k + ", 1)", x.share(k, 1));
            for (int c = 0; c < 10; c++) {
                put("needs(" + k + ", " + c + ")", x.needs(k, c));
            }
        }
    }

    private void ofSets() {
        for (int what = 0; what < 3; what++) {
            put("sets(" + what + ")", x.sets(what));
            put("fewest(" + what + ")", x.fewest(what));
        }
        for (int c = 0; c < 10; c++) {
            put("belief(" + c + ", 0)", x.belief(c, 0));
            put("belief(" + c + ", 1)", x.belief(c, 1));
        }
        for (int set = 0; set < 8; set++) {
            put("covers(" + set + ")", x.covers(set));
        }
        put("covers(1023)", x.covers(1023));
        put("unexplained()", x.unexplained());
    }

    private void ofAsking() {
        for (int f = 0; f < 12; f++) {
            for (int what = 0; what < 4; what++) {
                put("split(" + f + ", " + what + ")", x.split(f, what));
            }
            for (int is = 0; is < 3; is++) {
                put("would(" + f + ", " + is + ")", x.would(f, is));
            }
        }
        put("next()", x.next());
        for (int k = 0; k < 12; k++) {
            for (int what = 0; what < 3; what++) {
                put("plan(" + k + ", " + what + ")", x.plan(k, what));
            }
        }
    }

    private void ofTakingBack() {
        int seen = 0;
        while (seen <= 20 && put("back() " + seen, x.back()) >= 0) {
            put("THERE after back() " + seen, x.many(1));
            put("ABSENT after back() " + seen, x.many(2));
            seen++;
        }
    }
}
