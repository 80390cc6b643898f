/** Promises 1 to 10: a test of its own for each sentence that names a boundary. */
public final class EdgeThingsTest {
    private static final int UNKNOWN = -1, OUTSIDE = -2, STATE = -3, ROOM = -4, NONE = -5;
    private static final int MIN = Integer.MIN_VALUE, MAX = Integer.MAX_VALUE;

    private static final Due due = new Due("edges of things");

    public static void main(String[] args) {
        nothing();
        decisionLow();
        decisionHigh();
        decisionLowAboveHigh();
        decisionPerson();
        decisionKept();
        decisionRoom();
        decisionFirstCounts();
        weightBounds();
        perBounds();
        weightUnknown();
        weightRefusedWhole();
        worthValue();
        worthBounds();
        worthUnknown();
        worthWhatItWas();
        pinToEach();
        pinToNone();
        pinUnknown();
        pinOutside();
        limitBounds();
        limitPerson();
        limitWhatItWas();
        factBounds();
        factKept();
        factRoom();
        factFirstCounts();
        changeBounds();
        changeUnknown();
        changeFromUnknown();
        changeWhenKept();
        ruleKind();
        ruleCountedValue();
        ruleDecisions();
        ruleFact();
        ruleRoom();
        ruleFirstCounts();
        ruleWhenKept();
        firstBounds();
        firstWhatItWas();
        due.end();
    }

    private static NearPlans withDecisions(int n) {
        NearPlans x = new NearPlans();
        for (int d = 0; d < n; d++) x.decision(0, 5, 0);
        return x;
    }

    private static void nothing() {
        due.sentence("1: Nothing.");
        for (int i = 0; i < 6; i++) {
            due.is("value(" + i + ")", new NearPlans().value(i), UNKNOWN);
            due.is("change(" + i + ", 0)", new NearPlans().change(i, 0), UNKNOWN);
            due.is("without(" + i + ")", new NearPlans().without(i), UNKNOWN);
            due.is("base(" + i + ")", new NearPlans().base(i), UNKNOWN);
        }
        due.is("keep()", new NearPlans().keep(), STATE);
        due.is("run()", new NearPlans().run(), STATE);
        due.is("undo()", new NearPlans().undo(), STATE);
        due.is("decision", new NearPlans().decision(0, 0, 0), 0);
        due.is("fact", new NearPlans().fact(0), 0);
        int[] told = {0, 0, 0, 0, 0, 0, 1, NONE};
        for (int i = 0; i < 8; i++) due.is("told(" + i + ")", new NearPlans().told(i), told[i]);
    }

    private static void decisionLow() {
        due.sentence("2: OUTSIDE: low is not 0 to 5");
        int[] lows = {MIN, -6, -1, 0, 1, 2, 3, 4, 5, 6, 7, MAX};
        for (int low : lows) {
            boolean may = low >= 0 && low <= 5;
            due.is("decision(" + low + ", 5, 0)", new NearPlans().decision(low, 5, 0), may ? 0 : OUTSIDE);
        }
        due.is("decision(-1, -1, 0)", new NearPlans().decision(-1, -1, 0), OUTSIDE);
        due.is("decision(-1, 0, 0)", new NearPlans().decision(-1, 0, 0), OUTSIDE);
    }

    private static void decisionHigh() {
        due.sentence("2: OUTSIDE: high is not 0 to 5");
        int[] highs = {MIN, -6, -1, 0, 1, 2, 3, 4, 5, 6, 7, MAX};
        for (int high : highs) {
            boolean may = high >= 0 && high <= 5;
            due.is("decision(0, " + high + ", 0)", new NearPlans().decision(0, high, 0), may ? 0 : OUTSIDE);
        }
        due.is("decision(6, 6, 0)", new NearPlans().decision(6, 6, 0), OUTSIDE);
        due.is("decision(5, 6, 0)", new NearPlans().decision(5, 6, 0), OUTSIDE);
    }

    private static void decisionLowAboveHigh() {
        due.sentence("2: OUTSIDE: low is above high");
        for (int low = 0; low < 6; low++) {
            for (int high = 0; high < 6; high++) {
                int want = low > high ? OUTSIDE : 0;
                due.is("decision(" + low + ", " + high + ", 3)", new NearPlans().decision(low, high, 3), want);
            }
        }
        due.is("decision(MAX, MIN, 0)", new NearPlans().decision(MAX, MIN, 0), OUTSIDE);
    }

    private static void decisionPerson() {
        due.sentence("2: OUTSIDE: the PERSON is not 0 to 3");
        int[] persons = {MIN, -5, -1, 0, 1, 2, 3, 4, 5, MAX};
        for (int p : persons) {
            boolean may = p >= 0 && p <= 3;
            due.is("decision(0, 5, " + p + ")", new NearPlans().decision(0, 5, p), may ? 0 : OUTSIDE);
        }
    }

    private static void decisionKept() {
        due.sentence("2: STATE: a PLAN is KEPT");
        NearPlans x = withDecisions(1);
        x.run();
        due.is("decision, a run is not a kept plan", x.decision(0, 5, 0), 1);
        x.keep();
        for (int i = 0; i < 3; i++) {
            due.is("decision", x.decision(0, 5, 0), STATE);
            x.keep();
            x.base(0);
        }
        x.undo();
        due.is("decision, undone", x.decision(0, 5, 0), STATE);
        due.is("value(2)", x.value(2), UNKNOWN);
    }

    private static void decisionRoom() {
        due.sentence("2: ROOM");
        NearPlans x = new NearPlans();
        for (int d = 0; d < 6; d++) due.is("decision", x.decision(d, 5, d % 4), d);
        for (int p = 0; p < 4; p++) due.is("decision, a seventh", x.decision(0, 0, p), ROOM);
        for (int d = 0; d < 6; d++) due.is("value(" + d + ")", x.value(d), d);
    }

    private static void decisionFirstCounts() {
        due.sentence("2: OUTSIDE; STATE; ROOM: the first counts");
        NearPlans x = withDecisions(6);
        due.is("outside and no room", x.decision(0, 6, 0), OUTSIDE);
        due.is("outside by its person and no room", x.decision(0, 5, 4), OUTSIDE);
        due.is("outside, low above high, and no room", x.decision(5, 4, 0), OUTSIDE);
        due.is("no room", x.decision(0, 5, 0), ROOM);
        x.keep();
        due.is("kept and no room", x.decision(0, 5, 0), STATE);
        due.is("outside, kept and no room", x.decision(-1, 5, 0), OUTSIDE);
    }

    private static void weightBounds() {
        due.sentence("3: A DECISION's WEIGHT (0 to 100)");
        int[] weights = {MIN, -1, 0, 1, 99, 100, 101, MAX};
        for (int w : weights) {
            NearPlans x = withDecisions(1);
            x.keep();
            x.put(0, 1);
            boolean may = w >= 0 && w <= 100;
            due.is("weight(0, " + w + ", 0)", x.weight(0, w, 0), may ? 1 : OUTSIDE);
            due.is("told(0)", x.told(0), may ? w : 1);
        }
    }

    private static void perBounds() {
        due.sentence("3: and PER (0 to 20)");
        int[] pers = {MIN, -1, 0, 1, 19, 20, 21, MAX};
        for (int per : pers) {
            NearPlans x = withDecisions(1);
            x.put(0, 5);
            x.keep();
            x.put(0, 0);
            boolean may = per >= 0 && per <= 20;
            due.is("weight(0, 0, " + per + ")", x.weight(0, 0, per), may ? 1 : OUTSIDE);
            due.is("told(0)", x.told(0), may ? 5 * per : 1);
        }
    }

    private static void weightUnknown() {
        due.sentence("3: UNKNOWN; OUTSIDE.");
        NearPlans x = withDecisions(2);
        int[] strange = {MIN, -1, 2, 6, MAX};
        for (int d : strange) {
            due.is("weight(" + d + ", 1, 1)", x.weight(d, 1, 1), UNKNOWN);
            due.is("weight(" + d + ", 101, 0), outside too", x.weight(d, 101, 0), UNKNOWN);
            due.is("weight(" + d + ", 0, -1), outside too", x.weight(d, 0, -1), UNKNOWN);
        }
        due.is("weight(1, 1, 1), the last", x.weight(1, 1, 1), 1);
        due.is("weight(0, 0, 0), none at all", new NearPlans().weight(0, 0, 0), UNKNOWN);
    }

    /** One of both is out of its bounds: neither changes. */
    private static void weightRefusedWhole() {
        due.sentence("3: what is refused changes nothing");
        NearPlans x = withDecisions(1);
        x.keep();
        x.put(0, 2);
        x.weight(0, 30, 4);
        due.is("weight(0, 50, 21)", x.weight(0, 50, 21), OUTSIDE);
        due.is("told(0)", x.told(0), 38);
        due.is("weight(0, 101, 7)", x.weight(0, 101, 7), OUTSIDE);
        due.is("told(0)", x.told(0), 38);
    }

    private static void worthValue() {
        due.sentence("4: A VALUE's (0 to 5, also one that the DECISION can't have)");
        NearPlans x = new NearPlans();
        x.decision(2, 3, 0);
        int[] values = {MIN, -1, 0, 1, 2, 3, 4, 5, 6, MAX};
        for (int v : values) {
            boolean may = v >= 0 && v <= 5;
            due.is("worth(0, " + v + ", 7)", x.worth(0, v, 7), may ? 0 : OUTSIDE);
            due.is("worth(0, " + v + ", 9)", x.worth(0, v, 9), may ? 7 : OUTSIDE);
        }
        x.first(1);
        x.worth(0, 5, 100);
        x.worth(0, 0, 100);
        due.is("run(), it can't have what is worth most", x.run(), 0);
        due.is("value(0)", x.value(0), 2);
        due.is("told(1)", x.told(1), 9);
    }

    private static void worthBounds() {
        due.sentence("4: WORTH (0 to 100)");
        int[] worths = {MIN, -1, 0, 1, 99, 100, 101, MAX};
        for (int w : worths) {
            NearPlans x = withDecisions(1);
            x.worth(0, 0, 50);
            boolean may = w >= 0 && w <= 100;
            due.is("worth(0, 0, " + w + ")", x.worth(0, 0, w), may ? 50 : OUTSIDE);
            due.is("told(1)", x.told(1), may ? w : 50);
        }
    }

    private static void worthUnknown() {
        due.sentence("4: UNKNOWN; OUTSIDE.");
        NearPlans x = withDecisions(2);
        int[] strange = {MIN, -1, 2, 6, MAX};
        for (int d : strange) {
            due.is("worth(" + d + ", 0, 0)", x.worth(d, 0, 0), UNKNOWN);
            due.is("worth(" + d + ", 6, 0), outside too", x.worth(d, 6, 0), UNKNOWN);
            due.is("worth(" + d + ", 0, 101), outside too", x.worth(d, 0, 101), UNKNOWN);
        }
        due.is("worth(1, 5, 100), the last", x.worth(1, 5, 100), 0);
        due.is("worth(0, 0, 0), none at all", new NearPlans().worth(0, 0, 0), UNKNOWN);
    }

    private static void worthWhatItWas() {
        due.sentence("4: what it was");
        NearPlans x = withDecisions(6);
        for (int d = 0; d < 6; d++) for (int v = 0; v < 6; v++) due.is("worth, at first", x.worth(d, v, 6 * d + v), 0);
        for (int d = 0; d < 6; d++) for (int v = 0; v < 6; v++) due.is("worth", x.worth(d, v, 100), 6 * d + v);
        due.is("worth(0, 0, 101), refused", x.worth(0, 0, 101), OUTSIDE);
        due.is("worth(0, 0, 1)", x.worth(0, 0, 1), 100);
        due.is("worth(0, 0, 0)", x.worth(0, 0, 0), 1);
    }

    private static void pinToEach() {
        due.sentence("5: A DECISION is PINNED to a VALUE");
        for (int v = 0; v < 6; v++) {
            NearPlans x = withDecisions(2);
            due.is("pin(1, " + v + ")", x.pin(1, v), 1);
            due.is("told(6), it has 0", x.told(6), v == 0 ? 1 : 0);
            due.is("run()", x.run(), 0);
            due.is("value(1)", x.value(1), v);
            due.is("near(0)", x.near(0), 6);
            due.is("pin(1, 5 - v), pinned again", x.pin(1, 5 - v), 1);
            due.is("run()", x.run(), 0);
            due.is("value(1)", x.value(1), 5 - v);
        }
    }

    private static void pinToNone() {
        due.sentence("5: NONE: to none.");
        NearPlans x = withDecisions(2);
        due.is("pin(0, NONE), not pinned before", x.pin(0, NONE), 1);
        due.is("near(0)", x.near(0), 36);
        x.pin(0, 5);
        x.pin(1, 5);
        due.is("near(0)", x.near(0), 1);
        due.is("pin(0, NONE)", x.pin(0, NONE), 1);
        due.is("near(0), the other stays pinned", x.near(0), 6);
        due.is("pin(1, NONE)", x.pin(1, NONE), 1);
        due.is("near(0)", x.near(0), 36);
    }

    private static void pinUnknown() {
        due.sentence("5: UNKNOWN");
        NearPlans x = withDecisions(2);
        int[] strange = {MIN, -1, 2, 6, MAX};
        for (int d : strange) {
            due.is("pin(" + d + ", 0)", x.pin(d, 0), UNKNOWN);
            due.is("pin(" + d + ", NONE)", x.pin(d, NONE), UNKNOWN);
            due.is("pin(" + d + ", 6), outside too", x.pin(d, 6), UNKNOWN);
        }
        due.is("pin(0, NONE), none at all", new NearPlans().pin(0, NONE), UNKNOWN);
    }

    private static void pinOutside() {
        due.sentence("5: OUTSIDE: it can't have it.");
        for (int low = 0; low < 6; low++) {
            for (int high = low; high < 6; high++) {
                NearPlans x = new NearPlans();
                x.decision(low, high, 0);
                for (int v = -7; v < 8; v++) {
                    boolean may = v >= low && v <= high || v == NONE;
                    due.is("pin(0, " + v + ") of " + low + " to " + high, x.pin(0, v), may ? 1 : OUTSIDE);
                }
                due.is("near(0), the last that it can have", x.near(0), 1);
                due.is("pin(0, MIN)", x.pin(0, MIN), OUTSIDE);
                due.is("pin(0, MAX)", x.pin(0, MAX), OUTSIDE);
            }
        }
    }

    private static void limitBounds() {
        due.sentence("6: A PERSON's LIMIT (0 to 6)");
        int[] limits = {MIN, -1, 0, 1, 2, 3, 4, 5, 6, 7, MAX};
        for (int n : limits) {
            NearPlans x = new NearPlans();
            boolean may = n >= 0 && n <= 6;
            due.is("limit(0, " + n + ")", x.limit(0, n), may ? 6 : OUTSIDE);
            due.is("limit(0, 3)", x.limit(0, 3), may ? n : 6);
        }
    }

    private static void limitPerson() {
        due.sentence("6: OUTSIDE.");
        int[] persons = {MIN, -1, 4, 5, MAX};
        for (int p : persons) {
            due.is("limit(" + p + ", 0)", new NearPlans().limit(p, 0), OUTSIDE);
            due.is("limit(" + p + ", 7)", new NearPlans().limit(p, 7), OUTSIDE);
        }
    }

    private static void limitWhatItWas() {
        due.sentence("6: what it was");
        NearPlans x = new NearPlans();
        for (int p = 0; p < 4; p++) due.is("limit(" + p + ", ..), at first", x.limit(p, p), 6);
        due.is("limit(2, 7), refused", x.limit(2, 7), OUTSIDE);
        due.is("limit(2, -1), refused", x.limit(2, -1), OUTSIDE);
        for (int p = 0; p < 4; p++) due.is("limit(" + p + ", 6)", x.limit(p, 6), p);
        for (int p = 0; p < 4; p++) due.is("limit(" + p + ", 6)", x.limit(p, 6), 6);
    }

    private static void factBounds() {
        due.sentence("7: A FACT (-20 to 20): its number. OUTSIDE");
        int[] facts = {MIN, -22, -21, -20, -19, -1, 0, 1, 19, 20, 21, 22, MAX};
        for (int v : facts) {
            NearPlans x = new NearPlans();
            boolean may = v >= -20 && v <= 20;
            due.is("fact(" + v + ")", x.fact(v), may ? 0 : OUTSIDE);
            due.is("change(0, 0)", x.change(0, 0), may ? v : UNKNOWN);
        }
    }

    private static void factKept() {
        due.sentence("7: STATE: a PLAN is KEPT");
        NearPlans x = withDecisions(1);
        x.run();
        due.is("fact, a run is not a kept plan", x.fact(0), 0);
        x.keep();
        due.is("fact(0)", x.fact(0), STATE);
        x.keep();
        x.keep();
        x.base(0);
        due.is("fact(0)", x.fact(0), STATE);
        due.is("change(1, 0)", x.change(1, 0), UNKNOWN);
    }

    private static void factRoom() {
        due.sentence("7: ROOM.");
        NearPlans x = new NearPlans();
        for (int f = 0; f < 6; f++) due.is("fact", x.fact(20), f);
        due.is("fact, a seventh", x.fact(20), ROOM);
        due.is("fact, a seventh", x.fact(-20), ROOM);
        for (int f = 0; f < 6; f++) due.is("change(" + f + ", 0)", x.change(f, 0), 20);
    }

    private static void factFirstCounts() {
        due.sentence("7: OUTSIDE; STATE; ROOM: the first counts");
        NearPlans x = withDecisions(1);
        for (int f = 0; f < 6; f++) x.fact(0);
        due.is("outside and no room", x.fact(21), OUTSIDE);
        due.is("no room", x.fact(0), ROOM);
        x.keep();
        due.is("kept and no room", x.fact(0), STATE);
        due.is("outside, kept and no room", x.fact(-21), OUTSIDE);
    }

    private static void changeBounds() {
        due.sentence("8: A FACT changes (-20 to 20): what it was. OUTSIDE.");
        int[] facts = {MIN, -22, -21, -20, -19, -1, 0, 1, 19, 20, 21, 22, MAX};
        for (int v : facts) {
            NearPlans x = new NearPlans();
            x.fact(7);
            boolean may = v >= -20 && v <= 20;
            due.is("change(0, " + v + ")", x.change(0, v), may ? 7 : OUTSIDE);
            due.is("change(0, 0)", x.change(0, 0), may ? v : 7);
        }
    }

    private static void changeUnknown() {
        due.sentence("8: UNKNOWN; OUTSIDE.");
        NearPlans x = new NearPlans();
        due.is("change(0, 0), none at all", x.change(0, 0), UNKNOWN);
        x.fact(3);
        x.fact(4);
        int[] strange = {MIN, -1, 2, 6, MAX};
        for (int f : strange) {
            due.is("change(" + f + ", 0)", x.change(f, 0), UNKNOWN);
            due.is("change(" + f + ", 21), outside too", x.change(f, 21), UNKNOWN);
        }
        due.is("change(0, 0)", x.change(0, 0), 3);
        due.is("change(1, 0)", x.change(1, 0), 4);
    }

    private static void changeFromUnknown() {
        due.sentence("8: UNKNOWN (which it may have been, too)");
        NearPlans x = new NearPlans();
        for (int v = -5; v < 0; v++) {
            x = new NearPlans();
            x.fact(v);
            due.is("change(0, 5), it was " + v, x.change(0, 5), v);
            due.is("change(0, 5)", x.change(0, 5), 5);
        }
    }

    private static void changeWhenKept() {
        due.sentence("8: A FACT changes");
        NearPlans x = withDecisions(1);
        x.fact(0);
        x.rule(1, 0, 0, 0);
        for (int k = 0; k < 3; k++) {
            x.keep();
            due.is("change(0, -20)", x.change(0, -20), 0);
            due.is("told(4)", x.told(4), 1);
            due.is("change(0, 0)", x.change(0, 0), -20);
            due.is("told(4)", x.told(4), 0);
        }
    }

    private static void ruleKind() {
        due.sentence("9: OUTSIDE: kind is not 0 to 5");
        int[] kinds = {MIN, -1, 0, 1, 2, 3, 4, 5, 6, 7, MAX};
        for (int kind : kinds) {
            NearPlans x = withDecisions(2);
            x.fact(0);
            boolean may = kind >= 0 && kind <= 5;
            due.is("rule(" + kind + ", 0, 1, 0)", x.rule(kind, 0, 1, 0), may ? 0 : OUTSIDE);
            due.is("without(0)", x.without(0), may ? 0 : UNKNOWN);
        }
    }

    private static void ruleCountedValue() {
        due.sentence("9: OUTSIDE: b (of 5) not 0 to 5");
        int[] values = {MIN, -1, 0, 1, 2, 3, 4, 5, 6, 7, MAX};
        for (int b : values) {
            NearPlans x = new NearPlans();
            x.fact(0);
            boolean may = b >= 0 && b <= 5;
            due.is("rule(5, 0, " + b + ", 0), without a decision", x.rule(5, 0, b, 0), may ? 0 : OUTSIDE);
            due.is("without(0)", x.without(0), may ? STATE : UNKNOWN);
        }
    }

    private static void ruleDecisions() {
        due.sentence("9: UNKNOWN: a, b (but of 5)");
        int[] strange = {MIN, -1, 3, 5, 6, MAX};
        for (int kind = 0; kind < 5; kind++) {
            NearPlans x = withDecisions(3);
            x.fact(0);
            for (int d : strange) {
                due.is("rule(" + kind + ", " + d + ", 2, 0)", x.rule(kind, d, 2, 0), UNKNOWN);
                due.is("rule(" + kind + ", 2, " + d + ", 0)", x.rule(kind, 2, d, 0), UNKNOWN);
                due.is("rule(" + kind + ", " + d + ", " + d + ", 0)", x.rule(kind, d, d, 0), UNKNOWN);
            }
            for (int a = 0; a < 3; a++) {
                for (int b = 0; b < 3; b++) due.is("rule(" + kind + ", " + a + ", " + b + ", 0)", x.rule(kind, a, b, 0), 3 * a + b);
            }
        }
        NearPlans y = withDecisions(3);
        y.fact(0);
        for (int b = 0; b < 6; b++) due.is("rule(5, 9, " + b + ", 0)", y.rule(5, 9, b, 0), b);
    }

    private static void ruleFact() {
        due.sentence("9: UNKNOWN: the FACT");
        int[] strange = {MIN, -1, 2, 6, MAX};
        for (int kind = 0; kind < 6; kind++) {
            NearPlans x = withDecisions(2);
            due.is("rule(" + kind + ", 0, 1, 0), no fact at all", x.rule(kind, 0, 1, 0), UNKNOWN);
            x.fact(0);
            x.fact(0);
            for (int f : strange) due.is("rule(" + kind + ", 0, 1, " + f + ")", x.rule(kind, 0, 1, f), UNKNOWN);
            due.is("rule(" + kind + ", 0, 1, 1), the last", x.rule(kind, 0, 1, 1), 0);
        }
    }

    private static void ruleRoom() {
        due.sentence("9: ROOM.");
        for (int kind = 0; kind < 6; kind++) {
            NearPlans x = withDecisions(2);
            x.fact(0);
            for (int r = 0; r < 12; r++) due.is("rule", x.rule(kind, 0, 1, 0), r);
            for (int other = 0; other < 6; other++) due.is("rule, a thirteenth", x.rule(other, 0, 1, 0), ROOM);
            due.is("without(12)", x.without(12), UNKNOWN);
        }
    }

    private static void ruleFirstCounts() {
        due.sentence("9: OUTSIDE; UNKNOWN; ROOM: the first counts");
        NearPlans x = withDecisions(1);
        x.fact(0);
        for (int r = 0; r < 12; r++) x.rule(0, 0, 0, 0);
        due.is("outside by its kind, unknown, no room", x.rule(6, 1, 1, 1), OUTSIDE);
        due.is("outside by b, unknown fact, no room", x.rule(5, 0, 6, 1), OUTSIDE);
        due.is("unknown a, no room", x.rule(0, 1, 0, 0), UNKNOWN);
        due.is("unknown b, no room", x.rule(0, 0, 1, 0), UNKNOWN);
        due.is("unknown fact, no room", x.rule(0, 0, 0, 1), UNKNOWN);
        due.is("unknown fact of 5, no room", x.rule(5, 0, 0, 1), UNKNOWN);
        due.is("no room", x.rule(5, 1, 0, 0), ROOM);
    }

    private static void ruleWhenKept() {
        due.sentence("9: A RULE: its number");
        NearPlans x = withDecisions(1);
        x.fact(-1);
        x.keep();
        due.is("rule, a plan is kept", x.rule(1, 0, 0, 0), 0);
        due.is("told(5)", x.told(5), 1);
        due.is("rule", x.rule(5, 0, 3, 0), 1);
        due.is("told(5)", x.told(5), 3);
    }

    private static void firstBounds() {
        due.sentence("10: NEAR FIRST (0), WORTH FIRST (1). OUTSIDE.");
        int[] which = {MIN, -5, -1, 0, 1, 2, 3, MAX};
        for (int w : which) {
            NearPlans x = new NearPlans();
            x.first(1);
            due.is("first(" + w + ")", x.first(w), w == 0 || w == 1 ? 1 : OUTSIDE);
            due.is("first(0)", x.first(0), w == 0 ? 0 : 1);
        }
    }

    private static void firstWhatItWas() {
        due.sentence("10: what it was");
        NearPlans x = new NearPlans();
        due.is("first(0)", x.first(0), 0);
        due.is("first(1)", x.first(1), 0);
        due.is("first(1)", x.first(1), 1);
        due.is("first(0)", x.first(0), 1);
        due.is("first(0)", x.first(0), 0);
    }
}
