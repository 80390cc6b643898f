/** Objects in which a call may find itself; each is made of fewer than a hundred calls. */
enum Stage {
    NEW, RULES_ALONE, PLANNED, KEPT, STUCK, FORBIDDEN, FULL;

    static final int NONE = -5;

    NearPlans make() {
        NearPlans x = new NearPlans();
        switch (this) {
            case NEW: break;
            case RULES_ALONE: rulesAlone(x); break;
            case PLANNED: planned(x); break;
            case KEPT: kept(x); break;
            case STUCK: stuck(x); break;
            case FORBIDDEN: forbidden(x); break;
            default: full(x);
        }
        return x;
    }

    int decisions() {
        switch (this) {
            case NEW: case RULES_ALONE: return 0;
            case FULL: return 6;
            default: return 3;
        }
    }

    int facts() {
        switch (this) {
            case NEW: return 0;
            case RULES_ALONE: return 1;
            case FULL: return 6;
            default: return 2;
        }
    }

    int rules() {
        switch (this) {
            case NEW: return 0;
            case RULES_ALONE: return 1;
            case FULL: return 12;
            default: return 3;
        }
    }

    int keptPlans() {
        switch (this) {
            case NEW: case RULES_ALONE: case PLANNED: return 0;
            case FULL: return 3;
            default: return 2;
        }
    }

    int knownRuns() {
        switch (this) {
            case NEW: case RULES_ALONE: return 0;
            case FULL: return 8;
            case PLANNED: return 2;
            default: return 3;
        }
    }

    private static void rulesAlone(NearPlans x) {
        x.fact(-1);
        x.rule(5, 0, 3, 0);
        x.limit(2, 4);
        x.first(1);
    }

    /** No plan is kept; both runs left 1, 2, 0 behind. */
    private static void planned(NearPlans x) {
        x.decision(1, 3, 0);
        x.decision(0, 4, 1);
        x.decision(0, 2, 1);
        x.fact(3);
        x.fact(1);
        x.rule(2, 0, 1, 0);
        x.rule(4, 1, 2, 0);
        x.rule(5, 0, 0, 1);
        x.weight(0, 4, 2);
        x.weight(1, 3, 0);
        x.worth(0, 2, 5);
        x.worth(1, 3, 6);
        x.worth(1, 5, 9);
        x.pin(2, 0);
        x.run();
        x.put(1, 4);
        x.put(2, 2);
        x.run();
        x.pin(2, NONE);
        x.limit(1, 1);
        x.limit(3, 2);
    }

    /** Two plans are kept, the base is the first of them, a fact is another one than there. */
    private static void kept(NearPlans x) {
        planned(x);
        x.keep();
        x.put(0, 3);
        x.change(1, 2);
        x.keep();
        x.base(0);
        x.change(0, 6);
        x.run();
        x.first(1);
    }

    /** No plan holds. */
    private static void stuck(NearPlans x) {
        kept(x);
        x.change(0, 20);
    }

    /** No plan is allowed. */
    private static void forbidden(NearPlans x) {
        kept(x);
        x.limit(0, 0);
        x.pin(0, x.old(0, 0) == 3 ? 2 : 3);
    }

    /** As much of all as there can be. */
    private static void full(NearPlans x) {
        for (int d = 0; d < 6; d++) x.decision(d % 3, d % 3 + 2, d % 4);
        for (int f = 0; f < 6; f++) x.fact(f < 3 ? 2 : 6);
        for (int r = 0; r < 6; r++) x.rule(r % 3 + 1, r, (r + 1) % 6, r % 3 == 0 ? 3 : 0);
        for (int r = 6; r < 12; r++) x.rule(5, 0, r - 6, 1);
        for (int d = 0; d < 6; d++) {
            x.weight(d, d + 1, d % 2);
            x.worth(d, d % 3 + 1, 3);
        }
        x.put(5, 3);
        x.keep();
        x.put(1, 2);
        x.keep();
        x.put(2, 3);
        x.keep();
        x.base(1);
        x.change(1, 3);
        for (int i = 0; i < 10; i++) {
            x.put(i % 6, i % 6 % 3 + i / 6 + 1);
            x.run();
        }
        x.change(0, 1);
    }
}
