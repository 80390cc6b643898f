import java.util.EnumMap;
import java.util.List;
import java.util.Map;

/**
 * "Of those that a comment names the first counts; what is refused changes nothing": every kind of
 * refusal of every call, in every stage of an object where it can come, asked alone and together with
 * those that are named behind it. Behind each, all that can be asked of the object is compared with
 * what an object answers that was not called so; and likewise behind the calls that only ask.
 */
public final class RefusalTest {
    private static final int UNKNOWN = -1, OUTSIDE = -2, STATE = -3, ROOM = -4, NONE = -5;
    private static final int MIN = Integer.MIN_VALUE, MAX = Integer.MAX_VALUE;

    private interface Call {
        int on(NearPlans x);
    }

    private static final Due due = new Due("refusals");
    private static final Map<Stage, List<String>> untouched = new EnumMap<>(Stage.class);

    public static void main(String[] args) {
        for (Stage stage : Stage.values()) untouched.put(stage, Probe.of(stage.make()));
        stagesAreWhatTheyAreCalled();
        roomWithoutKept();
        for (Stage stage : Stage.values()) {
            decision(stage);
            weight(stage);
            worth(stage);
            pin(stage);
            limit(stage);
            fact(stage);
            change(stage);
            rule(stage);
            first(stage);
            put(stage);
            value(stage);
            keep(stage);
            base(stage);
            old(stage);
            run(stage);
            undo(stage);
            told(stage);
            near(stage);
            least(stage);
            without(stage);
            spare(stage);
            why(stage);
            wayAndBroken(stage);
            clash(stage);
        }
        due.end();
    }

    private static void stagesAreWhatTheyAreCalled() {
        due.sentence("the stages of this test");
        for (Stage stage : Stage.values()) {
            NearPlans x = stage.make();
            is(stage, "value, the last", x.value(stage.decisions()), UNKNOWN);
            is(stage, "known runs", runsOf(x), stage.knownRuns());
            NearPlans y = stage.make();
            is(stage, "rule", y.without(stage.rules()), UNKNOWN);
            is(stage, "base", y.base(stage.keptPlans()), UNKNOWN);
            is(stage, "change", y.change(stage.facts(), 0), UNKNOWN);
        }
        is(Stage.STUCK, "run()", Stage.STUCK.make().run(), NONE);
        is(Stage.STUCK, "clash(-1) is of some rules", Stage.STUCK.make().clash(-1) > 0 ? 1 : 0, 1);
        is(Stage.FORBIDDEN, "clash(-1)", Stage.FORBIDDEN.make().clash(-1), 0);
    }

    private static int runsOf(NearPlans x) {
        int runs = 0;
        while (runs < 100 && x.undo() != STATE) runs++;
        return runs;
    }

    private static void is(Stage stage, String call, int got, int want) {
        due.is(stage + ", " + call, got, want);
    }

    /** What the call answers, and that nothing changed. */
    private static void refused(Stage stage, String call, Call made, int want) {
        NearPlans x = stage.make();
        is(stage, call, made.on(x), want);
        unchanged(stage, call, x);
    }

    private static void asks(Stage stage, String call, Call made) {
        NearPlans x = stage.make();
        made.on(x);
        unchanged(stage, call, x);
    }

    private static void unchanged(Stage stage, String call, NearPlans x) {
        List<String> want = untouched.get(stage);
        List<String> got = Probe.of(x);
        for (int i = 0; i < want.size(); i++) {
            boolean same = i < got.size() && got.get(i).equals(want.get(i));
            due.is(stage + ", behind " + call + " is due: " + want.get(i), same ? 1 : 0, 1);
            if (!same) return;
        }
    }

    /** The numbers that are no numbers of things, of which there are so many. */
    private static int[] strange(int many) {
        return new int[] {-1, many, -2, NONE, many + 1, MIN, MAX};
    }

    private static void decision(Stage stage) {
        due.sentence("decision: OUTSIDE: low, high are not 0 to 5, low is above high, the PERSON is not 0 to 3");
        int[][] wrong = {
            {-1, 0, 0}, {-1, 5, 3}, {6, 6, 0}, {0, 6, 0}, {5, 6, 3}, {0, -1, 0}, {-1, -1, 0}, {1, 0, 0}, {5, 4, 3}, {5, 0, 0},
            {0, 5, -1}, {0, 5, 4}, {0, 0, MIN}, {5, 5, MAX}, {MIN, MAX, 0}, {MAX, MIN, 0}, {MIN, 0, 0}, {0, MAX, 0}, {MIN, MIN, MIN}};
        for (int[] w : wrong) {
            refused(stage, "decision(" + w[0] + ", " + w[1] + ", " + w[2] + ")", x -> x.decision(w[0], w[1], w[2]), OUTSIDE);
        }
        if (stage.keptPlans() > 0) {
            due.sentence("decision: STATE: a PLAN is KEPT");
            refused(stage, "decision(0, 5, 0)", x -> x.decision(0, 5, 0), STATE);
        }
        if (stage.decisions() == 6) {
            due.sentence("decision: STATE, and then ROOM");
            refused(stage, "decision(5, 5, 3)", x -> x.decision(5, 5, 3), STATE);
        }
    }

    /** Full, but nothing is kept: only then ROOM shows. */
    private static void roomWithoutKept() {
        due.sentence("decision, fact: OUTSIDE, and then ROOM");
        List<String> want = Probe.of(sixAndSix());
        NearPlans y = sixAndSix();
        due.is("decision(0, 6, 0), full", y.decision(0, 6, 0), OUTSIDE);
        due.is("decision(0, 5, 0), full", y.decision(0, 5, 0), ROOM);
        due.is("fact(21), full", y.fact(21), OUTSIDE);
        due.is("fact(20), full", y.fact(20), ROOM);
        due.is("nothing changed", Probe.of(y).equals(want) ? 1 : 0, 1);
    }

    private static NearPlans sixAndSix() {
        NearPlans x = new NearPlans();
        for (int d = 0; d < 6; d++) x.decision(d, 5, d % 4);
        for (int f = 0; f < 6; f++) x.fact(f - 3);
        return x;
    }

    private static void weight(Stage stage) {
        due.sentence("weight: UNKNOWN, and then OUTSIDE");
        for (int d : strange(stage.decisions())) {
            refused(stage, "weight(" + d + ", 0, 0)", x -> x.weight(d, 0, 0), UNKNOWN);
            refused(stage, "weight(" + d + ", 101, 21)", x -> x.weight(d, 101, 21), UNKNOWN);
        }
        if (stage.decisions() == 0) return;
        due.sentence("weight: A DECISION's WEIGHT (0 to 100) and PER (0 to 20)");
        int[][] wrong = {{-1, 0}, {101, 0}, {0, -1}, {100, 21}, {-1, -1}, {101, 21}, {MIN, 20}, {MAX, 20}, {100, MIN}, {100, MAX}};
        for (int d = 0; d < stage.decisions(); d++) {
            int known = d;
            for (int[] w : wrong) {
                refused(stage, "weight(" + d + ", " + w[0] + ", " + w[1] + ")", x -> x.weight(known, w[0], w[1]), OUTSIDE);
            }
        }
    }

    private static void worth(Stage stage) {
        due.sentence("worth: UNKNOWN, and then OUTSIDE");
        for (int d : strange(stage.decisions())) {
            refused(stage, "worth(" + d + ", 0, 1)", x -> x.worth(d, 0, 1), UNKNOWN);
            refused(stage, "worth(" + d + ", 6, 101)", x -> x.worth(d, 6, 101), UNKNOWN);
        }
        if (stage.decisions() == 0) return;
        due.sentence("worth: A VALUE's (0 to 5, also one that the DECISION can't have) WORTH (0 to 100)");
        int last = stage.decisions() - 1;
        int[][] wrong = {{-1, 0}, {6, 0}, {0, -1}, {5, 101}, {-1, 101}, {6, -1}, {MIN, 100}, {MAX, 100}, {0, MIN}, {5, MAX}};
        for (int[] w : wrong) {
            refused(stage, "worth(0, " + w[0] + ", " + w[1] + ")", x -> x.worth(0, w[0], w[1]), OUTSIDE);
            refused(stage, "worth(" + last + ", " + w[0] + ", " + w[1] + ")", x -> x.worth(last, w[0], w[1]), OUTSIDE);
        }
    }

    private static void pin(Stage stage) {
        due.sentence("pin: UNKNOWN, and then OUTSIDE");
        for (int d : strange(stage.decisions())) {
            refused(stage, "pin(" + d + ", 0)", x -> x.pin(d, 0), UNKNOWN);
            refused(stage, "pin(" + d + ", NONE)", x -> x.pin(d, NONE), UNKNOWN);
            refused(stage, "pin(" + d + ", 6)", x -> x.pin(d, 6), UNKNOWN);
        }
        if (stage.decisions() == 0) return;
        due.sentence("pin: OUTSIDE: it can't have it");
        int[] wrong = {-1, -2, -3, -4, -6, 5, 6, MIN, MAX};
        for (int w : wrong) refused(stage, "pin(0, " + w + ")", x -> x.pin(0, w), OUTSIDE);
        int[] ofLast = stage == Stage.FULL ? new int[] {0, 1, 5} : new int[] {3, 4, 5};
        int last = stage.decisions() - 1;
        for (int w : ofLast) refused(stage, "pin(" + last + ", " + w + ")", x -> x.pin(last, w), OUTSIDE);
    }

    private static void limit(Stage stage) {
        due.sentence("limit: A PERSON's LIMIT (0 to 6): OUTSIDE");
        int[][] wrong = {{-1, 0}, {4, 0}, {0, -1}, {3, 7}, {1, 7}, {2, -1}, {-1, 7}, {MIN, 6}, {MAX, 6}, {0, MIN}, {3, MAX}};
        for (int[] w : wrong) refused(stage, "limit(" + w[0] + ", " + w[1] + ")", x -> x.limit(w[0], w[1]), OUTSIDE);
    }

    private static void fact(Stage stage) {
        due.sentence("fact: A FACT (-20 to 20): OUTSIDE, then STATE, then ROOM");
        int[] wrong = {-21, 21, MIN, MAX};
        for (int w : wrong) refused(stage, "fact(" + w + ")", x -> x.fact(w), OUTSIDE);
        int[] right = {-20, 0, 20};
        for (int v : right) {
            if (stage.keptPlans() > 0) refused(stage, "fact(" + v + ")", x -> x.fact(v), STATE);
        }
    }

    private static void change(Stage stage) {
        due.sentence("change: UNKNOWN, and then OUTSIDE");
        for (int f : strange(stage.facts())) {
            refused(stage, "change(" + f + ", 0)", x -> x.change(f, 0), UNKNOWN);
            refused(stage, "change(" + f + ", 21)", x -> x.change(f, 21), UNKNOWN);
        }
        due.sentence("change: A FACT changes (-20 to 20)");
        int[] wrong = {-21, 21, MIN, MAX};
        for (int w : wrong) {
            int last = stage.facts() - 1;
            refused(stage, "change(" + last + ", " + w + ")", x -> x.change(last, w), last < 0 ? UNKNOWN : OUTSIDE);
        }
    }

    private static void rule(Stage stage) {
        due.sentence("rule: OUTSIDE: kind is not 0 to 5, b (of 5) not 0 to 5");
        int[] kinds = {-1, 6, MIN, MAX};
        for (int kind : kinds) {
            refused(stage, "rule(" + kind + ", 0, 0, 0)", x -> x.rule(kind, 0, 0, 0), OUTSIDE);
            refused(stage, "rule(" + kind + ", -1, -1, -1)", x -> x.rule(kind, -1, -1, -1), OUTSIDE);
        }
        int[] values = {-1, 6, NONE, MIN, MAX};
        for (int b : values) {
            refused(stage, "rule(5, 0, " + b + ", 0)", x -> x.rule(5, 0, b, 0), OUTSIDE);
            refused(stage, "rule(5, 0, " + b + ", -1)", x -> x.rule(5, 0, b, -1), OUTSIDE);
        }
        due.sentence("rule: UNKNOWN: a, b (but of 5), the FACT; and then ROOM");
        int last = Math.max(0, stage.decisions() - 1);
        for (int kind = 0; kind < 5; kind++) {
            int one = kind;
            for (int d : strange(stage.decisions())) {
                refused(stage, "rule(" + kind + ", " + d + ", 0, 0)", x -> x.rule(one, d, last, 0), UNKNOWN);
                refused(stage, "rule(" + kind + ", 0, " + d + ", 0)", x -> x.rule(one, last, d, 0), UNKNOWN);
            }
        }
        for (int f : strange(stage.facts())) {
            refused(stage, "rule(4, 0, 0, " + f + ")", x -> x.rule(4, 0, 0, f), UNKNOWN);
            refused(stage, "rule(5, 0, 0, " + f + ")", x -> x.rule(5, 0, 0, f), UNKNOWN);
        }
        if (stage.rules() == 12) {
            for (int kind = 0; kind < 6; kind++) {
                int one = kind;
                refused(stage, "rule(" + kind + ", 0, 1, 0)", x -> x.rule(one, 0, 1, 0), ROOM);
            }
        }
    }

    private static void first(Stage stage) {
        due.sentence("first: NEAR FIRST (0), WORTH FIRST (1): OUTSIDE");
        int[] wrong = {-1, 2, NONE, MIN, MAX};
        for (int w : wrong) refused(stage, "first(" + w + ")", x -> x.first(w), OUTSIDE);
    }

    private static void put(Stage stage) {
        due.sentence("put: UNKNOWN, and then OUTSIDE");
        for (int d : strange(stage.decisions())) {
            refused(stage, "put(" + d + ", 0)", x -> x.put(d, 0), UNKNOWN);
            refused(stage, "put(" + d + ", 6)", x -> x.put(d, 6), UNKNOWN);
        }
        if (stage.decisions() == 0) return;
        due.sentence("put: OUTSIDE: it can't have it");
        int[] wrong = {-1, NONE, 5, 6, MIN, MAX};
        for (int w : wrong) refused(stage, "put(0, " + w + ")", x -> x.put(0, w), OUTSIDE);
        if (stage != Stage.FULL) refused(stage, "put(0, 0): its low is 1", x -> x.put(0, 0), OUTSIDE);
    }

    private static void value(Stage stage) {
        due.sentence("value: UNKNOWN");
        for (int d : strange(stage.decisions())) refused(stage, "value(" + d + ")", x -> x.value(d), UNKNOWN);
        for (int d = 0; d < stage.decisions(); d++) {
            int one = d;
            asks(stage, "value(" + d + ")", x -> x.value(one));
        }
    }

    private static void keep(Stage stage) {
        due.sentence("keep: STATE: there is no DECISION; ROOM");
        if (stage.decisions() == 0) refused(stage, "keep()", NearPlans::keep, STATE);
        else if (stage.keptPlans() == 3) refused(stage, "keep()", NearPlans::keep, ROOM);
        else due.is(stage + ", keep()", stage.make().keep(), stage.keptPlans());
    }

    private static void base(Stage stage) {
        due.sentence("base: UNKNOWN");
        for (int k : strange(stage.keptPlans())) refused(stage, "base(" + k + ")", x -> x.base(k), UNKNOWN);
    }

    private static void old(Stage stage) {
        due.sentence("old: UNKNOWN: one of both");
        int lastPlan = stage.keptPlans() - 1, lastDecision = stage.decisions() - 1;
        for (int k : strange(stage.keptPlans())) {
            refused(stage, "old(" + k + ", " + lastDecision + ")", x -> x.old(k, lastDecision), UNKNOWN);
            refused(stage, "old(" + k + ", 6)", x -> x.old(k, 6), UNKNOWN);
        }
        for (int d : strange(stage.decisions())) {
            refused(stage, "old(" + lastPlan + ", " + d + ")", x -> x.old(lastPlan, d), UNKNOWN);
        }
        asks(stage, "old(0, 0)", x -> x.old(0, 0));
    }

    private static void run(Stage stage) {
        due.sentence("run: NONE: none HOLDS (THE PLAN stays). STATE: there is no DECISION");
        boolean none = stage == Stage.STUCK || stage == Stage.FORBIDDEN;
        if (stage.decisions() == 0) refused(stage, "run()", NearPlans::run, STATE);
        else if (none) refused(stage, "run()", NearPlans::run, NONE);
        else due.is(stage + ", run() answers a cost", stage.make().run() >= 0 ? 1 : 0, 1);
    }

    private static void undo(Stage stage) {
        due.sentence("undo: STATE: there is none");
        if (stage.knownRuns() == 0) refused(stage, "undo()", NearPlans::undo, STATE);
        else due.is(stage + ", undo()", stage.make().undo(), stage.knownRuns() - 1);
    }

    private static void told(Stage stage) {
        due.sentence("told: OUTSIDE");
        int[] wrong = {-1, 8, 9, NONE, MIN, MAX};
        for (int w : wrong) refused(stage, "told(" + w + ")", x -> x.told(w), OUTSIDE);
        for (int i = 0; i < 8; i++) {
            int what = i;
            asks(stage, "told(" + i + ")", x -> x.told(what));
        }
    }

    private static void near(Stage stage) {
        due.sentence("near: a COST of n (0 to 2,000) at most. OUTSIDE; STATE: there is no DECISION");
        int[] wrong = {-1, 2001, MIN, MAX};
        for (int w : wrong) refused(stage, "near(" + w + ")", x -> x.near(w), OUTSIDE);
        int[] right = {0, 1, 1999, 2000};
        for (int n : right) {
            if (stage.decisions() == 0) refused(stage, "near(" + n + ")", x -> x.near(n), STATE);
            else asks(stage, "near(" + n + ")", x -> x.near(n));
        }
    }

    private static void least(Stage stage) {
        due.sentence("least: NONE. STATE: there is no DECISION");
        boolean none = stage == Stage.STUCK || stage == Stage.FORBIDDEN;
        if (stage.decisions() == 0) refused(stage, "least()", NearPlans::least, STATE);
        else if (none) refused(stage, "least()", NearPlans::least, NONE);
        else asks(stage, "least()", NearPlans::least);
    }

    private static void without(Stage stage) {
        due.sentence("without: UNKNOWN (the RULE); STATE: there is no DECISION; NONE");
        for (int r : strange(stage.rules())) refused(stage, "without(" + r + ")", x -> x.without(r), UNKNOWN);
        for (int r = 0; r < stage.rules(); r++) {
            int one = r;
            if (stage.decisions() == 0) refused(stage, "without(" + r + ")", x -> x.without(one), STATE);
            else if (stage == Stage.FORBIDDEN) refused(stage, "without(" + r + ")", x -> x.without(one), NONE);
            else asks(stage, "without(" + r + ")", x -> x.without(one));
        }
    }

    private static void spare(Stage stage) {
        due.sentence("spare: OUTSIDE; STATE: there is no DECISION; NONE");
        int[] wrong = {-1, 4, NONE, MIN, MAX};
        for (int w : wrong) refused(stage, "spare(" + w + ")", x -> x.spare(w), OUTSIDE);
        boolean none = stage == Stage.STUCK || stage == Stage.FORBIDDEN;
        for (int p = 0; p < 4; p++) {
            int one = p;
            if (stage.decisions() == 0) refused(stage, "spare(" + p + ")", x -> x.spare(one), STATE);
            else if (none) refused(stage, "spare(" + p + ")", x -> x.spare(one), NONE);
            else asks(stage, "spare(" + p + ")", x -> x.spare(one));
        }
    }

    private static void why(Stage stage) {
        due.sentence("why: UNKNOWN; STATE: it is not MOVED");
        for (int d : strange(stage.decisions())) refused(stage, "why(" + d + ")", x -> x.why(d), UNKNOWN);
        int moved = stage.make().told(3);
        for (int d = 0; d < stage.decisions(); d++) {
            int one = d;
            if ((moved >> d & 1) == 0) refused(stage, "why(" + d + ")", x -> x.why(one), STATE);
            else asks(stage, "why(" + d + ")", x -> x.why(one));
        }
    }

    private static void wayAndBroken(Stage stage) {
        due.sentence("way, broken: STATE: there is no BASE; NONE: no such place");
        int length = stage.make().told(2);
        boolean based = stage.keptPlans() > 0;
        for (int i : strange(length)) {
            refused(stage, "way(" + i + ")", x -> x.way(i), based ? NONE : STATE);
            refused(stage, "broken(" + i + ")", x -> x.broken(i), based ? NONE : STATE);
        }
        for (int i = 0; i < length; i++) {
            int place = i;
            asks(stage, "way(" + i + ")", x -> x.way(place));
            asks(stage, "broken(" + i + ")", x -> x.broken(place));
        }
    }

    private static void clash(Stage stage) {
        due.sentence("clash: NONE: there is none such, or no CLASH. STATE: there is no DECISION");
        int size = stage.make().clash(-1);
        int[] strange = {-2, NONE, MIN, Math.max(0, size), Math.max(0, size) + 1, 12, MAX};
        for (int i : strange) {
            refused(stage, "clash(" + i + ")", x -> x.clash(i), stage.decisions() == 0 ? STATE : NONE);
        }
        for (int i = -1; i < size; i++) {
            int place = i;
            asks(stage, "clash(" + i + ")", x -> x.clash(place));
        }
    }
}
