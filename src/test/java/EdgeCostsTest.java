/** Promises 19 to 26: a test of its own for each sentence that names a boundary. */
public final class EdgeCostsTest {
    private static final int UNKNOWN = -1, OUTSIDE = -2, STATE = -3, NONE = -5;
    private static final int MIN = Integer.MIN_VALUE, MAX = Integer.MAX_VALUE;
    private static final int[] STRANGE = {MIN, NONE, -2, -1, 6, 7, MAX};

    private static final Due due = new Due("edges of costs");

    public static void main(String[] args) {
        nearBounds();
        nearAtMost();
        nearWithoutDecision();
        nearNone();
        leastNone();
        leastWithoutDecision();
        leastWhateverItIsWorth();
        withoutUnknown();
        withoutDecision();
        withoutNone();
        withoutEach();
        spareOutside();
        spareWithoutDecision();
        spareNone();
        spareLimitNought();
        whyUnknown();
        whyNotMoved();
        whyNone();
        whyNoneHolds();
        whyTheLeastFact();
        whyLastFact();
        whyAllElseAsNow();
        wayWithoutBase();
        wayNoSuchPlace();
        wayAsNow();
        brokenWithoutBase();
        brokenNoSuchPlace();
        brokenAllRules();
        clashWithoutDecision();
        clashNoneSuch();
        clashNone();
        clashOfSix();
        clashOfAllTwelve();
        due.end();
    }

    private static NearPlans withDecisions(int n) {
        NearPlans x = new NearPlans();
        for (int d = 0; d < n; d++) x.decision(0, 5, 0);
        return x;
    }

    private static void nearBounds() {
        due.sentence("19: n (0 to 2,000). OUTSIDE");
        NearPlans x = withDecisions(1);
        int[] costs = {MIN, -2, -1, 0, 1, 1999, 2000, 2001, 2002, MAX};
        for (int n : costs) {
            boolean may = n >= 0 && n <= 2000;
            due.is("near(" + n + ")", x.near(n), may ? 6 : OUTSIDE);
        }
    }

    private static void nearAtMost() {
        due.sentence("19: How many PLANS that HOLD have a COST of n at most");
        NearPlans x = withDecisions(1);
        x.weight(0, 10, 3);
        x.keep();
        due.is("near(0), the base alone", x.near(0), 1);
        for (int far = 1; far < 6; far++) {
            int cost = 10 + 3 * far;
            due.is("near(" + (cost - 1) + ")", x.near(cost - 1), far);
            due.is("near(" + cost + ")", x.near(cost), far + 1);
            due.is("near(" + (cost + 1) + ")", x.near(cost + 1), far + 1);
        }
        NearPlans y = withDecisions(6);
        for (int d = 0; d < 6; d++) y.weight(d, 100, 20);
        y.keep();
        due.is("near(1199)", y.near(1199), 46655);
        due.is("near(1200), the greatest cost there is", y.near(1200), 46656);
        due.is("near(2000)", y.near(2000), 46656);
    }

    private static void nearWithoutDecision() {
        due.sentence("19: OUTSIDE; STATE: there is no DECISION.");
        NearPlans x = new NearPlans();
        due.is("near(-1)", x.near(-1), OUTSIDE);
        due.is("near(2001)", x.near(2001), OUTSIDE);
        due.is("near(0)", x.near(0), STATE);
        due.is("near(2000)", x.near(2000), STATE);
        x.fact(0);
        x.rule(5, 0, 0, 0);
        due.is("near(2000)", x.near(2000), STATE);
    }

    private static void nearNone() {
        due.sentence("19: How many (none)");
        NearPlans x = withDecisions(2);
        x.fact(10);
        x.rule(2, 0, 1, 0);
        x.keep();
        due.is("near(1), the one that holds costs 2", x.near(1), 0);
        due.is("near(2)", x.near(2), 1);
        x.change(0, 11);
        due.is("near(2000), none holds", x.near(2000), 0);
    }

    private static void leastNone() {
        due.sentence("20: The least COST of a PLAN that HOLDS; NONE.");
        NearPlans x = withDecisions(2);
        x.fact(10);
        x.rule(2, 0, 1, 0);
        due.is("least(), without a base", x.least(), 0);
        x.keep();
        x.weight(0, 100, 20);
        x.weight(1, 100, 20);
        due.is("least(), one alone holds", x.least(), 400);
        x.change(0, 11);
        due.is("least(), none holds", x.least(), NONE);
        x.change(0, 0);
        due.is("least(), the base holds", x.least(), 0);
        x.limit(0, 0);
        x.pin(0, 1);
        due.is("least(), none is allowed", x.least(), NONE);
    }

    private static void leastWithoutDecision() {
        due.sentence("20: STATE: there is no DECISION.");
        NearPlans x = new NearPlans();
        due.is("least()", x.least(), STATE);
        x.fact(-1);
        x.rule(5, 0, 0, 0);
        due.is("least(), a rule that nobody keeps", x.least(), STATE);
        x.decision(0, 0, 0);
        due.is("least()", x.least(), NONE);
    }

    private static void leastWhateverItIsWorth() {
        due.sentence("20: The least COST, WORTH FIRST or not");
        NearPlans x = withDecisions(1);
        x.keep();
        x.worth(0, 5, 100);
        for (int which = 0; which < 2; which++) {
            x.first(which);
            due.is("least()", x.least(), 0);
            due.is("spare(1)", x.spare(1), 0);
        }
        due.is("run()", x.run(), 1);
    }

    private static void withoutUnknown() {
        due.sentence("21: UNKNOWN (the RULE); STATE");
        int[] strange = {MIN, NONE, -2, -1, 12, 13, MAX};
        NearPlans x = new NearPlans();
        x.fact(6);
        for (int r = 0; r <= 12; r++) {
            for (int s : strange) due.is("without(" + s + ")", x.without(s), UNKNOWN);
            due.is("without, the one behind the last", x.without(r), UNKNOWN);
            x.rule(5, 0, 0, 0);
        }
        due.is("without(11), no decision", x.without(11), STATE);
        x.decision(0, 5, 0);
        due.is("without(11)", x.without(11), 0);
        due.is("without(12)", x.without(12), UNKNOWN);
    }

    private static void withoutDecision() {
        due.sentence("21: STATE: there is no DECISION; NONE.");
        NearPlans x = new NearPlans();
        x.fact(-1);
        x.rule(5, 0, 0, 0);
        x.rule(5, 0, 0, 0);
        due.is("without(0)", x.without(0), STATE);
        due.is("without(1)", x.without(1), STATE);
        x.decision(0, 0, 0);
        due.is("without(0), the other one is still there", x.without(0), NONE);
    }

    private static void withoutNone() {
        due.sentence("21: NONE.");
        NearPlans x = withDecisions(1);
        x.fact(20);
        x.rule(2, 0, 0, 0);
        due.is("without(0), the only one", x.without(0), 0);
        due.is("least(), it is still there", x.least(), NONE);
        x.rule(2, 0, 0, 0);
        due.is("without(0)", x.without(0), NONE);
        due.is("without(1)", x.without(1), NONE);
        x.change(0, 0);
        x.keep();
        x.limit(0, 0);
        x.pin(0, 1);
        due.is("without(0), none is allowed", x.without(0), NONE);
    }

    private static void withoutEach() {
        due.sentence("21: Likewise, if a RULE were not there");
        NearPlans x = withDecisions(6);
        x.fact(0);
        for (int r = 0; r < 12; r++) x.rule(2, r / 2, r / 2, 0);
        for (int d = 0; d < 6; d++) x.weight(d, 1 << d, 0);
        x.keep();
        x.change(0, 1);
        due.is("least()", x.least(), 63);
        for (int r = 0; r < 12; r++) due.is("without(" + r + "), there is another such", x.without(r), 63);
        NearPlans y = withDecisions(6);
        y.fact(0);
        for (int r = 0; r < 6; r++) y.rule(2, r, r, 0);
        for (int d = 0; d < 6; d++) y.weight(d, 1 << d, 0);
        y.keep();
        y.change(0, 1);
        for (int r = 0; r < 6; r++) due.is("without(" + r + ")", y.without(r), 63 - (1 << r));
    }

    private static void spareOutside() {
        due.sentence("22: OUTSIDE; STATE");
        int[] strange = {MIN, NONE, -2, -1, 4, 5, MAX};
        NearPlans x = withDecisions(1);
        for (int p : strange) {
            due.is("spare(" + p + "), no decision", new NearPlans().spare(p), OUTSIDE);
            due.is("spare(" + p + ")", x.spare(p), OUTSIDE);
        }
        for (int p = 0; p < 4; p++) due.is("spare(" + p + ")", x.spare(p), 0);
    }

    private static void spareWithoutDecision() {
        due.sentence("22: STATE: there is no DECISION; NONE.");
        NearPlans x = new NearPlans();
        for (int p = 0; p < 4; p++) due.is("spare(" + p + ")", x.spare(p), STATE);
        x.fact(-1);
        x.rule(5, 0, 0, 0);
        for (int p = 0; p < 4; p++) due.is("spare(" + p + ")", x.spare(p), STATE);
    }

    private static void spareNone() {
        due.sentence("22: NONE.");
        NearPlans x = withDecisions(1);
        x.fact(0);
        x.rule(2, 0, 0, 0);
        due.is("spare(0), without a base", x.spare(0), 0);
        x.keep();
        due.is("spare(0), the base holds", x.spare(0), 0);
        x.change(0, 1);
        due.is("spare(0), it must move", x.spare(0), NONE);
        due.is("spare(1)", x.spare(1), 1);
        x.change(0, 11);
        due.is("spare(1), none holds", x.spare(1), NONE);
        x.change(0, 0);
        x.pin(0, 1);
        due.is("spare(0), none is allowed", x.spare(0), NONE);
    }

    private static void spareLimitNought() {
        due.sentence("22: Likewise, if the LIMIT of a PERSON were 0");
        NearPlans x = new NearPlans();
        x.fact(0);
        for (int p = 0; p < 4; p++) {
            x.decision(0, 5, p);
            x.weight(p, 10 * (p + 1), 0);
        }
        for (int p = 0; p < 3; p++) x.rule(2, p, p + 1, 0);
        x.keep();
        x.change(0, 1);
        int[] costs = {50, 40, 60, 40};
        for (int p = 0; p < 4; p++) due.is("spare(" + p + ")", x.spare(p), costs[p]);
        due.is("least(), all limits stay", x.least(), 40);
        for (int p = 0; p < 4; p++) due.is("limit(" + p + ", 0)", x.limit(p, 0), 6);
        due.is("least()", x.least(), NONE);
        x.change(0, 0);
        for (int p = 0; p < 4; p++) due.is("spare(" + p + "), its limit is 0 already", x.spare(p), 0);
    }

    private static void whyUnknown() {
        due.sentence("23: UNKNOWN; STATE");
        for (int n = 0; n <= 6; n++) {
            NearPlans x = withDecisions(n);
            for (int d : STRANGE) due.is("why(" + d + ")", x.why(d), UNKNOWN);
            due.is("why, the one behind the last", x.why(n), UNKNOWN);
            due.is("why, the last", x.why(n - 1), n == 0 ? UNKNOWN : STATE);
            x.keep();
            due.is("why, the one behind the last", x.why(n), UNKNOWN);
        }
    }

    private static void whyNotMoved() {
        due.sentence("23: STATE: it is not MOVED.");
        NearPlans x = withDecisions(2);
        x.put(0, 3);
        due.is("why(0), no base", x.why(0), STATE);
        x.keep();
        due.is("why(0)", x.why(0), STATE);
        x.put(0, 4);
        due.is("why(0), moved", x.why(0), NONE);
        due.is("why(1), the other one", x.why(1), STATE);
        x.put(0, 3);
        due.is("why(0), moved back", x.why(0), STATE);
        x.put(1, 1);
        x.keep();
        due.is("why(1), another base", x.why(1), STATE);
        x.base(0);
        due.is("why(1), the old base", x.why(1), NONE);
    }

    private static void whyNone() {
        due.sentence("23: NONE");
        NearPlans x = withDecisions(1);
        x.keep();
        x.put(0, 1);
        due.is("why(0), there is no fact", x.why(0), NONE);
        NearPlans y = withDecisions(1);
        y.fact(0);
        y.keep();
        y.put(0, 1);
        due.is("why(0), no fact is another one", y.why(0), NONE);
        y.change(0, 1);
        due.is("why(0), the best is the base with each fact", y.why(0), 0);
        y.change(0, 0);
        due.is("why(0), the fact is again as it was", y.why(0), NONE);
        y.change(0, 1);
        y.pin(0, 1);
        due.is("why(0), the pin and no fact", y.why(0), NONE);
    }

    private static void whyNoneHolds() {
        due.sentence("23: THE BEST of the PLANS that HOLD (none does)");
        NearPlans x = withDecisions(1);
        x.fact(0);
        x.fact(0);
        x.rule(2, 0, 0, 1);
        x.keep();
        x.put(0, 1);
        x.change(0, 1);
        x.change(1, 11);
        due.is("why(0), none holds but with fact 1 as it was", x.why(0), 1);
        x.rule(2, 0, 0, 1);
        x.limit(0, 0);
        x.pin(0, 2);
        due.is("why(0), none is allowed", x.why(0), NONE);
    }

    private static void whyTheLeastFact() {
        due.sentence("23: the least FACT that is another one than when THE BASE was kept");
        NearPlans x = withDecisions(1);
        for (int f = 0; f < 6; f++) x.fact(0);
        x.keep();
        x.put(0, 1);
        for (int f = 5; f >= 0; f--) {
            x.change(f, f % 2 == 0 ? 9 : -9);
            due.is("why(0), the least number, whatever it is", x.why(0), f);
        }
        for (int f = 0; f < 6; f++) {
            due.is("why(0)", x.why(0), f);
            x.change(f, 0);
        }
        due.is("why(0)", x.why(0), NONE);
    }

    private static void whyLastFact() {
        due.sentence("23: with which as it was then THE BEST has the DECISION's VALUE of THE BASE");
        NearPlans x = withDecisions(6);
        for (int f = 0; f < 6; f++) x.fact(0);
        for (int d = 0; d < 6; d++) x.rule(2, d, d, 5 - d);
        x.keep();
        for (int f = 0; f < 6; f++) x.change(f, 10);
        due.is("run()", x.run(), 6);
        for (int d = 0; d < 6; d++) due.is("why(" + d + ")", x.why(d), 5 - d);
        x.rule(2, 0, 0, 0);
        due.is("why(0), two facts ask it", x.why(0), NONE);
        due.is("why(5), its fact asks another one too", x.why(5), 0);
    }

    private static void whyAllElseAsNow() {
        due.sentence("23: (all else as now)");
        NearPlans x = withDecisions(1);
        x.fact(0);
        x.rule(2, 0, 0, 0);
        x.keep();
        x.change(0, 2);
        x.run();
        due.is("why(0)", x.why(0), 0);
        x.worth(0, 3, 1);
        due.is("why(0), near first", x.why(0), 0);
        x.first(1);
        due.is("why(0), worth first it would be 3", x.why(0), NONE);
        x.worth(0, 0, 1);
        due.is("why(0), the base is worth as much and nearer", x.why(0), 0);
        x.rule(1, 0, 0, 0);
        due.is("why(0), a rule that came later", x.why(0), 0);
        due.is("change(0, 0), asking changed nothing", x.change(0, 0), 2);
    }

    private static void wayWithoutBase() {
        due.sentence("24: STATE: there is no BASE; NONE");
        NearPlans x = withDecisions(6);
        for (int d = 0; d < 6; d++) x.put(d, 5);
        for (int i : STRANGE) {
            due.is("way(" + i + "), no decision", new NearPlans().way(i), STATE);
            due.is("way(" + i + ")", x.way(i), STATE);
        }
        for (int i = 0; i < 6; i++) due.is("way(" + i + ")", x.way(i), STATE);
    }

    private static void wayNoSuchPlace() {
        due.sentence("24: NONE: no such place.");
        NearPlans x = withDecisions(6);
        x.keep();
        for (int moved = 0; moved <= 6; moved++) {
            if (moved > 0) x.put(moved - 1, 1);
            for (int i : STRANGE) due.is("way(" + i + ")", x.way(i), NONE);
            for (int i = 0; i < 6; i++) due.is("way(" + i + ") of " + moved, x.way(i), i < moved ? i : NONE);
        }
    }

    private static void wayAsNow() {
        due.sentence("24: THE WAY from THE BASE to THE PLAN");
        NearPlans x = withDecisions(3);
        x.keep();
        x.put(2, 1);
        due.is("way(0)", x.way(0), 2);
        x.keep();
        due.is("way(0), the plan is the base", x.way(0), NONE);
        x.put(1, 5);
        due.is("way(0)", x.way(0), 1);
        due.is("way(1)", x.way(1), NONE);
        x.base(0);
        due.is("way(0), the old base", x.way(0), 1);
        due.is("way(1)", x.way(1), 2);
        due.is("way(2)", x.way(2), NONE);
    }

    private static void brokenWithoutBase() {
        due.sentence("25: STATE: there is no BASE; NONE");
        NearPlans x = withDecisions(6);
        for (int d = 0; d < 6; d++) x.put(d, 5);
        for (int i : STRANGE) {
            due.is("broken(" + i + "), no decision", new NearPlans().broken(i), STATE);
            due.is("broken(" + i + ")", x.broken(i), STATE);
        }
        for (int i = 0; i < 6; i++) due.is("broken(" + i + ")", x.broken(i), STATE);
    }

    private static void brokenNoSuchPlace() {
        due.sentence("25: NONE: no such place.");
        NearPlans x = withDecisions(6);
        x.fact(0);
        x.rule(1, 0, 0, 0);
        x.keep();
        for (int moved = 0; moved <= 6; moved++) {
            if (moved > 0) x.put(6 - moved, 1);
            for (int i : STRANGE) due.is("broken(" + i + ")", x.broken(i), NONE);
            for (int i = 0; i < 6; i++) {
                int want = i >= moved ? NONE : i == 5 ? 1 : 0;
                due.is("broken(" + i + ") of " + moved, x.broken(i), want);
            }
        }
        due.is("way(5), what breaks the rule comes last", x.way(5), 0);
    }

    private static void brokenAllRules() {
        due.sentence("25: How many RULES are BROKEN behind step i of THE WAY");
        NearPlans x = withDecisions(6);
        x.fact(-1);
        for (int r = 0; r < 12; r++) x.rule(r < 6 ? 1 : 5, 0, r % 6, 0);
        x.keep();
        for (int d = 0; d < 6; d++) x.put(d, 5);
        for (int i = 0; i < 6; i++) {
            due.is("broken(" + i + "), all twelve", x.broken(i), 12);
            due.is("way(" + i + ")", x.way(i), i);
        }
        x.change(0, 10);
        for (int i = 0; i < 6; i++) due.is("broken(" + i + "), none", x.broken(i), 0);
    }

    /** STATE is a refusal and NONE is none, so STATE counts for every i. */
    private static void clashWithoutDecision() {
        due.sentence("26: STATE: there is no DECISION.");
        NearPlans x = new NearPlans();
        int[] places = {MIN, -2, -1, 0, 1, 11, 12, MAX};
        for (int i : places) due.is("clash(" + i + ")", x.clash(i), STATE);
        x.fact(-1);
        x.rule(5, 0, 0, 0);
        for (int i : places) due.is("clash(" + i + ")", x.clash(i), STATE);
        x.decision(5, 5, 0);
        due.is("clash(-1)", x.clash(-1), 1);
        due.is("clash(0)", x.clash(0), 0);
    }

    private static void clashNoneSuch() {
        due.sentence("26: its RULE i; NONE: there is none such");
        NearPlans x = withDecisions(2);
        x.fact(6);
        x.fact(5);
        x.rule(0, 0, 1, 0);
        x.rule(2, 0, 1, 0);
        x.rule(0, 1, 0, 0);
        x.rule(1, 0, 1, 1);
        due.is("clash(-1)", x.clash(-1), 2);
        due.is("clash(0)", x.clash(0), 1);
        due.is("clash(1)", x.clash(1), 3);
        int[] places = {MIN, NONE, -3, -2, 2, 3, 4, 11, 12, 31, 32, 33, MAX};
        for (int i : places) due.is("clash(" + i + ")", x.clash(i), NONE);
    }

    private static void clashNone() {
        due.sentence("26: NONE: no CLASH");
        NearPlans x = withDecisions(1);
        int[] places = {MIN, -2, -1, 0, 1, 12, MAX};
        for (int i : places) due.is("clash(" + i + "), no rule", x.clash(i), NONE);
        x.fact(0);
        for (int r = 0; r < 12; r++) x.rule(2, 0, 0, 0);
        for (int i : places) due.is("clash(" + i + "), all hold", x.clash(i), NONE);
        x.change(0, 10);
        for (int i : places) due.is("clash(" + i + "), one holds", x.clash(i), NONE);
        x.change(0, 11);
        due.is("clash(-1)", x.clash(-1), 1);
    }

    private static void clashOfSix() {
        due.sentence("26: How many RULES THE CLASH has (i = -1), its RULE i");
        NearPlans x = withDecisions(1);
        x.fact(0);
        for (int r = 0; r < 12; r++) x.rule(5, 0, (11 - r) / 2, 0);
        due.is("clash(-1), one for each value", x.clash(-1), 6);
        for (int i = 0; i < 6; i++) due.is("clash(" + i + "), the first of two alike", x.clash(i), 2 * i);
        due.is("clash(6)", x.clash(6), NONE);
        NearPlans y = withDecisions(2);
        y.fact(1);
        y.fact(0);
        for (int v = 0; v < 6; v++) y.rule(5, 0, v, 1);
        due.is("clash(-1)", y.clash(-1), 6);
        y.change(1, 1);
        due.is("clash(-1), two decisions, one of each value", y.clash(-1), NONE);
    }

    /** All six values are alike, 0 or 1; the first and the last are not both 1, and not both 0. */
    private static void clashOfAllTwelve() {
        due.sentence("26: How many RULES THE CLASH has: all there can be");
        NearPlans x = new NearPlans();
        for (int d = 0; d < 6; d++) x.decision(0, 1, 0);
        x.fact(0);
        x.fact(1);
        for (int d = 0; d < 5; d++) {
            x.rule(0, d, d + 1, 0);
            x.rule(0, d + 1, d, 0);
        }
        x.rule(1, 0, 5, 1);
        due.is("clash(-1), eleven rules", x.clash(-1), NONE);
        x.rule(2, 0, 5, 1);
        due.is("clash(-1)", x.clash(-1), 12);
        for (int i = 0; i < 12; i++) due.is("clash(" + i + ")", x.clash(i), i);
        due.is("clash(12)", x.clash(12), NONE);
        for (int r = 0; r < 12; r++) due.is("without(" + r + ")", x.without(r), 0);
    }
}
