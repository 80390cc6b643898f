/** Promises 11 to 18: a test of its own for each sentence that names a boundary. */
public final class EdgePlansTest {
    private static final int UNKNOWN = -1, OUTSIDE = -2, STATE = -3, ROOM = -4, NONE = -5;
    private static final int MIN = Integer.MIN_VALUE, MAX = Integer.MAX_VALUE;
    private static final int[] STRANGE = {MIN, NONE, -2, -1, 6, 7, MAX};

    private static final Due due = new Due("edges of plans");

    public static void main(String[] args) {
        putEach();
        putPinned();
        putUnknown();
        putOutside();
        valueUnknown();
        keepWithoutDecision();
        keepRoom();
        keepWhateverItIs();
        baseWhichWas();
        baseUnknown();
        oldUnknown();
        runWithoutDecision();
        runNone();
        runNoneByLimit();
        runStays();
        undoNone();
        undoSkipsRefused();
        undoEightKnown();
        undoAgainAndAgain();
        undoLaterDecisions();
        undoLaterDecisionsWhenFull();
        undoWhatWasPut();
        undoLeavesAllElse();
        toldOutside();
        toldEmpty();
        toldFull();
        toldBase();
        due.end();
    }

    private static NearPlans withDecisions(int n) {
        NearPlans x = new NearPlans();
        for (int d = 0; d < n; d++) x.decision(0, 5, 0);
        return x;
    }

    private static void putEach() {
        due.sentence("11: A DECISION has another VALUE in THE PLAN: what it was");
        NearPlans x = withDecisions(6);
        for (int d = 0; d < 6; d++) {
            due.is("put(" + d + ", 5)", x.put(d, 5), 0);
            due.is("put(" + d + ", 5), the same", x.put(d, 5), 5);
            due.is("put(" + d + ", 0)", x.put(d, 0), 5);
            due.is("put(" + d + ", ..)", x.put(d, d), 0);
        }
        for (int d = 0; d < 6; d++) due.is("value(" + d + ")", x.value(d), d);
    }

    private static void putPinned() {
        due.sentence("11: (PINNED or not)");
        NearPlans x = withDecisions(1);
        x.pin(0, 3);
        for (int v = 1; v < 6; v++) {
            due.is("put(0, " + v + ")", x.put(0, v), v - 1);
            due.is("told(6)", x.told(6), v == 3 ? 1 : 0);
        }
        due.is("put(0, 6)", x.put(0, 6), OUTSIDE);
    }

    private static void putUnknown() {
        due.sentence("11: UNKNOWN; OUTSIDE");
        for (int n = 0; n <= 6; n++) {
            NearPlans x = withDecisions(n);
            for (int d : STRANGE) due.is("put(" + d + ", 0)", x.put(d, 0), UNKNOWN);
            for (int d : STRANGE) due.is("put(" + d + ", 6), outside too", x.put(d, 6), UNKNOWN);
            due.is("put, the one behind the last", x.put(n, 0), UNKNOWN);
            due.is("put, the last", x.put(n - 1, 5), n == 0 ? UNKNOWN : 0);
        }
    }

    private static void putOutside() {
        due.sentence("11: OUTSIDE: it can't have it.");
        for (int low = 0; low < 6; low++) {
            for (int high = low; high < 6; high++) {
                NearPlans x = new NearPlans();
                x.decision(low, high, 0);
                int[] beyond = {MIN, NONE, -1, low - 1, high + 1, 6, MAX};
                for (int v : beyond) due.is("put(0, " + v + ") of " + low + " to " + high, x.put(0, v), OUTSIDE);
                due.is("value(0), nothing changed", x.value(0), low);
                due.is("put(0, high)", x.put(0, high), low);
                due.is("put(0, low)", x.put(0, low), high);
            }
        }
    }

    private static void valueUnknown() {
        due.sentence("12: UNKNOWN.");
        for (int n = 0; n <= 6; n++) {
            NearPlans x = withDecisions(n);
            for (int d : STRANGE) due.is("value(" + d + ")", x.value(d), UNKNOWN);
            for (int d = 0; d < 6; d++) due.is("value(" + d + ") of " + n, x.value(d), d < n ? 0 : UNKNOWN);
        }
    }

    private static void keepWithoutDecision() {
        due.sentence("13: STATE: there is no DECISION");
        NearPlans x = new NearPlans();
        x.fact(0);
        x.rule(5, 0, 0, 0);
        for (int i = 0; i < 4; i++) due.is("keep()", x.keep(), STATE);
        due.is("told(7)", x.told(7), NONE);
        due.is("base(0)", x.base(0), UNKNOWN);
        due.is("decision, nothing is kept", x.decision(0, 5, 0), 0);
        due.is("keep(), of one decision", x.keep(), 0);
    }

    private static void keepRoom() {
        due.sentence("13: ROOM.");
        NearPlans x = withDecisions(6);
        for (int k = 0; k < 3; k++) due.is("keep()", x.keep(), k);
        x.put(5, 4);
        x.base(1);
        due.is("keep(), a fourth", x.keep(), ROOM);
        due.is("told(7), the base stays", x.told(7), 1);
        for (int k = 0; k < 3; k++) due.is("old(" + k + ", 5)", x.old(k, 5), 0);
        x.run();
        due.is("keep(), still", x.keep(), ROOM);
    }

    private static void keepWhateverItIs() {
        due.sentence("13: THE PLAN is KEPT, and THE BASE");
        NearPlans x = withDecisions(2);
        x.fact(-1);
        x.rule(1, 0, 1, 0);
        x.pin(0, 5);
        due.is("told(6), it is not allowed", x.told(6), 0);
        due.is("told(4), it breaks a rule", x.told(4), 1);
        due.is("keep()", x.keep(), 0);
        x.put(1, 3);
        due.is("keep()", x.keep(), 1);
        due.is("told(7)", x.told(7), 1);
        due.is("told(2), nothing is moved", x.told(2), 0);
        due.is("old(0, 1)", x.old(0, 1), 0);
        due.is("old(1, 1)", x.old(1, 1), 3);
    }

    private static void baseWhichWas() {
        due.sentence("14: A KEPT PLAN is THE BASE: which was (NONE)");
        NearPlans x = withDecisions(1);
        for (int k = 0; k < 3; k++) x.keep();
        int was = 2;
        int[] next = {0, 0, 1, 2, 2, 0};
        for (int k : next) {
            due.is("base(" + k + ")", x.base(k), was);
            due.is("told(7)", x.told(7), k);
            was = k;
        }
    }

    private static void baseUnknown() {
        due.sentence("14: UNKNOWN.");
        NearPlans x = withDecisions(1);
        int[] strange = {MIN, NONE, -2, -1, 3, 4, MAX};
        for (int kept = 0; kept <= 3; kept++) {
            for (int k : strange) due.is("base(" + k + ")", x.base(k), UNKNOWN);
            due.is("base, the one behind the last", x.base(kept), UNKNOWN);
            due.is("told(7)", x.told(7), kept == 0 ? NONE : kept - 1);
            x.keep();
        }
    }

    private static void oldUnknown() {
        due.sentence("15: UNKNOWN: one of both.");
        int[] strange = {MIN, NONE, -1, 6, MAX};
        for (int kept = 0; kept <= 3; kept++) {
            NearPlans x = withDecisions(2);
            x.put(1, 5);
            for (int k = 0; k < kept; k++) x.keep();
            for (int s : strange) {
                due.is("old(" + s + ", 0)", x.old(s, 0), UNKNOWN);
                due.is("old(0, " + s + ")", x.old(0, s), UNKNOWN);
                due.is("old(" + s + ", " + s + ")", x.old(s, s), UNKNOWN);
            }
            due.is("old, the decision behind the last", x.old(kept - 1, 2), UNKNOWN);
            due.is("old, the plan behind the last", x.old(kept, 1), UNKNOWN);
            due.is("old, the last of both", x.old(kept - 1, 1), kept == 0 ? UNKNOWN : 5);
        }
    }

    /** Also where a rule can't be kept by nobody: STATE is a refusal, NONE is none. */
    private static void runWithoutDecision() {
        due.sentence("16: STATE: there is no DECISION.");
        NearPlans x = new NearPlans();
        due.is("run()", x.run(), STATE);
        x.fact(-1);
        x.rule(5, 0, 0, 0);
        due.is("run()", x.run(), STATE);
        due.is("undo()", x.undo(), STATE);
        x.decision(0, 0, 0);
        due.is("run(), of one decision", x.run(), NONE);
        x.change(0, 1);
        due.is("run()", x.run(), 0);
    }

    private static void runNone() {
        due.sentence("16: NONE: none HOLDS (THE PLAN stays)");
        NearPlans x = withDecisions(2);
        x.fact(10);
        x.rule(2, 0, 1, 0);
        x.put(0, 3);
        x.put(1, 4);
        x.change(0, 11);
        due.is("run()", x.run(), NONE);
        due.is("value(0)", x.value(0), 3);
        due.is("value(1)", x.value(1), 4);
        x.change(0, 10);
        due.is("run(), one holds", x.run(), 0);
        due.is("value(0)", x.value(0), 5);
        due.is("value(1)", x.value(1), 5);
    }

    private static void runNoneByLimit() {
        due.sentence("16: THE BEST of those that HOLD");
        NearPlans x = withDecisions(2);
        x.fact(0);
        x.rule(2, 0, 1, 0);
        x.keep();
        x.change(0, 6);
        x.limit(0, 1);
        due.is("run(), two must move and one may", x.run(), NONE);
        x.limit(0, 2);
        due.is("run()", x.run(), 2);
        due.is("value(0)", x.value(0), 1);
        due.is("value(1)", x.value(1), 5);
        x.change(0, 5);
        x.limit(0, 1);
        due.is("run(), one is enough", x.run(), 1);
        due.is("value(0)", x.value(0), 0);
        due.is("value(1)", x.value(1), 5);
    }

    private static void runStays() {
        due.sentence("16: THE PLAN becomes THE BEST: its COST");
        NearPlans x = withDecisions(6);
        for (int d = 0; d < 6; d++) {
            x.put(d, 5 - d);
            x.weight(d, 100, 20);
        }
        x.keep();
        due.is("run(), the base holds", x.run(), 0);
        for (int d = 0; d < 6; d++) due.is("value(" + d + ")", x.value(d), 5 - d);
        for (int d = 0; d < 6; d++) x.pin(d, d);
        due.is("run(), all are pinned elsewhere", x.run(), 600 + 20 * 18);
        for (int d = 0; d < 6; d++) due.is("value(" + d + ")", x.value(d), d);
    }

    private static void undoNone() {
        due.sentence("17: STATE: there is none.");
        NearPlans x = new NearPlans();
        due.is("undo()", x.undo(), STATE);
        x.decision(0, 5, 0);
        x.put(0, 3);
        due.is("undo(), put is no run", x.undo(), STATE);
        x.run();
        due.is("undo()", x.undo(), 0);
        due.is("value(0)", x.value(0), 3);
        for (int i = 0; i < 3; i++) due.is("undo(), no more", x.undo(), STATE);
        due.is("value(0)", x.value(0), 3);
    }

    private static void undoSkipsRefused() {
        due.sentence("17: the latest run() that was not refused, not NONE, and is not undone");
        NearPlans x = new NearPlans();
        x.run();
        x.fact(0);
        x.decision(0, 5, 0);
        x.rule(2, 0, 0, 0);
        due.is("undo(), the run was refused", x.undo(), STATE);
        x.put(0, 1);
        x.run();
        x.put(0, 2);
        x.change(0, 20);
        due.is("run()", x.run(), NONE);
        due.is("run()", x.run(), NONE);
        x.change(0, 0);
        x.run();
        x.change(0, 20);
        due.is("run()", x.run(), NONE);
        due.is("undo()", x.undo(), 1);
        due.is("value(0), before the latest", x.value(0), 2);
        due.is("undo(), the one before it", x.undo(), 0);
        due.is("value(0)", x.value(0), 1);
        due.is("undo()", x.undo(), STATE);
    }

    private static void undoEightKnown() {
        due.sentence("17: how many more there are such (8 at most are known)");
        for (int runs = 0; runs <= 20; runs++) {
            NearPlans x = withDecisions(2);
            for (int i = 0; i < runs; i++) {
                x.put(0, i % 6);
                x.put(1, i / 6);
                due.is("run()", x.run(), 0);
            }
            int known = Math.min(runs, 8);
            for (int i = 1; i <= known; i++) {
                due.is("undo() behind " + runs + " runs", x.undo(), known - i);
                due.is("value(0)", x.value(0), (runs - i) % 6);
                due.is("value(1)", x.value(1), (runs - i) / 6);
            }
            due.is("undo(), no more is known", x.undo(), STATE);
        }
    }

    /** The row of known runs goes round: some come, some are undone, many times. */
    private static void undoAgainAndAgain() {
        due.sentence("17: is not undone");
        NearPlans x = withDecisions(1);
        int known = 0;
        for (int round = 0; round < 12; round++) {
            for (int i = 0; i < 5; i++) {
                x.put(0, i + 1);
                x.run();
                known = Math.min(8, known + 1);
            }
            for (int i = 4; i >= 2; i--) {
                known--;
                due.is("undo()", x.undo(), known);
                due.is("value(0)", x.value(0), i + 1);
            }
        }
    }

    private static void undoLaterDecisions() {
        due.sentence("17: (DECISIONS that came behind it stay)");
        NearPlans x = new NearPlans();
        for (int d = 0; d < 6; d++) {
            x.decision(0, 5, 0);
            for (int e = 0; e <= d; e++) x.put(e, d);
            x.run();
        }
        for (int d = 0; d < 6; d++) x.put(d, 4);
        for (int d = 5; d >= 0; d--) {
            due.is("undo()", x.undo(), d);
            for (int e = 0; e < 6; e++) due.is("value(" + e + ")", x.value(e), e <= d ? d : e);
        }
        due.is("undo()", x.undo(), STATE);
        due.is("value(5)", x.value(5), 5);
    }

    /** Nine runs, the oldest is forgotten; the second decision came before the last, or behind the first. */
    private static void undoLaterDecisionsWhenFull() {
        due.sentence("17: (DECISIONS that came behind it stay), 8 being known");
        for (int before = 1; before < 9; before++) {
            NearPlans x = withDecisions(1);
            for (int i = 0; i < before; i++) x.run();
            x.decision(0, 5, 0);
            for (int i = before; i < 9; i++) {
                x.put(1, 2);
                x.run();
            }
            for (int i = 8; i > 0; i--) {
                x.put(1, 4);
                due.is("undo()", x.undo(), i - 1);
                due.is("value(1), it came with run " + before + " of " + i, x.value(1), i >= before ? 2 : 4);
            }
            due.is("undo()", x.undo(), STATE);
        }
    }

    private static void undoWhatWasPut() {
        due.sentence("17: THE PLAN is again what it was before");
        NearPlans x = withDecisions(1);
        x.put(0, 3);
        x.run();
        x.put(0, 5);
        due.is("undo()", x.undo(), 0);
        due.is("value(0)", x.value(0), 3);
        x.pin(0, 0);
        x.put(0, 4);
        x.run();
        x.pin(0, 2);
        due.is("undo(), against the pin", x.undo(), 0);
        due.is("value(0)", x.value(0), 4);
        due.is("told(6)", x.told(6), 0);
    }

    private static void undoLeavesAllElse() {
        due.sentence("17: THE PLAN, and nothing else");
        NearPlans x = withDecisions(1);
        x.fact(2);
        x.run();
        x.keep();
        x.change(0, 7);
        x.limit(0, 3);
        x.first(1);
        x.worth(0, 0, 9);
        x.put(0, 5);
        x.keep();
        due.is("undo()", x.undo(), 0);
        due.is("told(7)", x.told(7), 1);
        due.is("old(1, 0)", x.old(1, 0), 5);
        due.is("change(0, 0)", x.change(0, 0), 7);
        due.is("limit(0, 6)", x.limit(0, 6), 3);
        due.is("first(0)", x.first(0), 1);
        due.is("worth(0, 0, 0)", x.worth(0, 0, 0), 9);
        due.is("value(0)", x.value(0), 0);
    }

    private static void toldOutside() {
        due.sentence("18: OUTSIDE.");
        int[] strange = {MIN, NONE, -2, -1, 8, 9, MAX};
        NearPlans x = withDecisions(1);
        for (int w : strange) {
            due.is("told(" + w + "), nothing there", new NearPlans().told(w), OUTSIDE);
            due.is("told(" + w + ")", x.told(w), OUTSIDE);
        }
        due.is("told(7), the last", x.told(7), NONE);
    }

    private static void toldEmpty() {
        due.sentence("18: Of THE PLAN (of no DECISION)");
        NearPlans x = new NearPlans();
        x.fact(0);
        x.rule(5, 0, 0, 0);
        int[] told = {0, 0, 0, 0, 0, 0, 1, NONE};
        for (int i = 0; i < 8; i++) due.is("told(" + i + ")", x.told(i), told[i]);
        x.change(0, -1);
        due.is("told(4), none is more than -1", x.told(4), 1);
        due.is("told(5)", x.told(5), 1);
    }

    private static void toldFull() {
        due.sentence("18: 2 how many DECISIONS are MOVED, 3 these as bits, 4 how many RULES do not hold, 5 these as bits");
        NearPlans x = withDecisions(6);
        x.fact(0);
        for (int r = 0; r < 12; r++) x.rule(1, r % 6, r % 6, 0);
        x.keep();
        int moved = 0;
        for (int d = 5; d >= 0; d--) {
            x.put(d, 1);
            moved |= 1 << d;
            due.is("told(2)", x.told(2), 6 - d);
            due.is("told(3)", x.told(3), moved);
            due.is("told(4)", x.told(4), 2 * (6 - d));
            due.is("told(5)", x.told(5), moved | moved << 6);
        }
    }

    private static void toldBase() {
        due.sentence("18: 7 THE BASE (NONE)");
        NearPlans x = withDecisions(1);
        due.is("told(7)", x.told(7), NONE);
        for (int k = 0; k < 3; k++) {
            x.keep();
            due.is("told(7)", x.told(7), k);
        }
        x.keep();
        due.is("told(7), a fourth was refused", x.told(7), 2);
    }
}
