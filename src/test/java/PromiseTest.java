/** Each promise with ordinary inputs, its edges and wrong inputs; the answers are worked out by hand. */
public final class PromiseTest {
    private static final int UNKNOWN = -1, OUTSIDE = -2, STATE = -3, ROOM = -4, NONE = -5;
    private static final int MIN = Integer.MIN_VALUE, MAX = Integer.MAX_VALUE;

    private static final Due due = new Due("promises");
    private static int promise = 0;

    public static void main(String[] args) {
        promise1NewObject();
        promise2Decision();
        promise3Weight();
        promise4Worth();
        promise5Pin();
        promise6Limit();
        promise7Fact();
        promise8Change();
        promise9Rule();
        promise9EachKind();
        promise10First();
        promise11Put();
        promise12Value();
        promise13Keep();
        promise14Base();
        promise15Old();
        promise16Run();
        promise16Ties();
        promise17Undo();
        promise18Told();
        promise19Near();
        promise20Least();
        promise21Without();
        promise22Spare();
        promise23Why();
        promise24Way();
        promise24WayOrder();
        promise25Broken();
        promise26Clash();
        promise26ClashOrder();
        fullHouse();
        due.end();
    }

    private static void is(String call, long got, long want) {
        due.is("promise " + promise + ", " + call, got, want);
    }

    /** So many decisions with values 0 to 5, of person 0. */
    private static NearPlans withDecisions(int n) {
        NearPlans x = new NearPlans();
        for (int d = 0; d < n; d++) x.decision(0, 5, 0);
        return x;
    }

    private static void promise1NewObject() {
        promise = 1;
        is("UNKNOWN", NearPlans.UNKNOWN, -1);
        is("OUTSIDE", NearPlans.OUTSIDE, -2);
        is("STATE", NearPlans.STATE, -3);
        is("ROOM", NearPlans.ROOM, -4);
        is("NONE", NearPlans.NONE, -5);
        NearPlans x = new NearPlans();
        int[] told = {0, 0, 0, 0, 0, 0, 1, NONE};
        for (int i = 0; i < 8; i++) is("told(" + i + ")", x.told(i), told[i]);
        is("value(0)", x.value(0), UNKNOWN);
        is("change(0, 0)", x.change(0, 0), UNKNOWN);
        is("without(0)", x.without(0), UNKNOWN);
        is("base(0)", x.base(0), UNKNOWN);
        for (int p = 0; p < 4; p++) is("limit(" + p + ", 6)", x.limit(p, 6), 6);
        is("first(0)", x.first(0), 0);
        NearPlans other = new NearPlans();
        other.decision(2, 3, 0);
        is("value(0) of an untouched object", x.value(0), UNKNOWN);
    }

    private static void promise2Decision() {
        promise = 2;
        NearPlans x = new NearPlans();
        int[][] wrong = {{-1, 0, 0}, {6, 6, 0}, {0, 6, 0}, {0, -1, 0}, {3, 2, 0}, {0, 5, -1}, {0, 5, 4}, {MIN, MAX, 0}, {0, 5, MIN}};
        for (int[] w : wrong) is("decision(" + w[0] + ", " + w[1] + ", " + w[2] + ")", x.decision(w[0], w[1], w[2]), OUTSIDE);
        is("value(0) behind what was refused", x.value(0), UNKNOWN);
        is("decision(0, 0, 0)", x.decision(0, 0, 0), 0);
        is("decision(5, 5, 3)", x.decision(5, 5, 3), 1);
        is("decision(2, 4, 1)", x.decision(2, 4, 1), 2);
        is("value(1)", x.value(1), 5);
        is("value(2)", x.value(2), 2);
        is("decision(0, 5, 2)", x.decision(0, 5, 2), 3);
        is("decision(0, 5, 2)", x.decision(0, 5, 2), 4);
        is("decision(0, 5, 2)", x.decision(0, 5, 2), 5);
        is("decision, a seventh", x.decision(0, 5, 2), ROOM);
        is("decision, a seventh outside", x.decision(0, 6, 2), OUTSIDE);
        is("value(6)", x.value(6), UNKNOWN);
        x.keep();
        is("decision, full and kept", x.decision(0, 5, 2), STATE);
        is("decision, outside and kept", x.decision(1, 0, 2), OUTSIDE);
    }

    private static void promise3Weight() {
        promise = 3;
        NearPlans x = withDecisions(2);
        is("weight(2, 1, 1)", x.weight(2, 1, 1), UNKNOWN);
        is("weight(-1, 101, 1)", x.weight(-1, 101, 1), UNKNOWN);
        int[][] wrong = {{-1, 0}, {101, 0}, {0, -1}, {0, 21}, {MAX, 0}, {0, MIN}};
        for (int[] w : wrong) is("weight(0, " + w[0] + ", " + w[1] + ")", x.weight(0, w[0], w[1]), OUTSIDE);
        x.keep();
        x.put(0, 3);
        is("told(0): weight 1 and per 0 at first", x.told(0), 1);
        is("weight(0, 100, 20)", x.weight(0, 100, 20), 1);
        is("told(0)", x.told(0), 160);
        is("weight(0, 101, 0), refused", x.weight(0, 101, 0), OUTSIDE);
        is("weight(0, 0, 21), refused", x.weight(0, 0, 21), OUTSIDE);
        is("told(0), nothing changed", x.told(0), 160);
        is("weight(0, 0, 0)", x.weight(0, 0, 0), 1);
        is("told(0)", x.told(0), 0);
        is("weight(1, 7, 2)", x.weight(1, 7, 2), 1);
        x.put(1, 5);
        is("told(0)", x.told(0), 17);
    }

    private static void promise4Worth() {
        promise = 4;
        NearPlans x = new NearPlans();
        x.decision(1, 2, 0);
        x.decision(0, 5, 0);
        is("worth(2, 0, 0)", x.worth(2, 0, 0), UNKNOWN);
        is("worth(-1, 6, 101)", x.worth(-1, 6, 101), UNKNOWN);
        int[][] wrong = {{-1, 0}, {6, 0}, {0, -1}, {0, 101}, {MAX, 0}, {0, MAX}, {MIN, MIN}};
        for (int[] w : wrong) is("worth(0, " + w[0] + ", " + w[1] + ")", x.worth(0, w[0], w[1]), OUTSIDE);
        is("worth(0, 5, 100), one it can't have", x.worth(0, 5, 100), 0);
        is("worth(0, 5, 3)", x.worth(0, 5, 3), 100);
        is("worth(0, 1, 4)", x.worth(0, 1, 4), 0);
        is("worth(1, 1, 8)", x.worth(1, 1, 8), 0);
        is("told(1)", x.told(1), 4);
        x.put(1, 1);
        is("told(1)", x.told(1), 12);
        is("worth(0, 1, 0)", x.worth(0, 1, 0), 4);
        is("worth(0, 1, 101), refused", x.worth(0, 1, 101), OUTSIDE);
        is("told(1)", x.told(1), 8);
    }

    private static void promise5Pin() {
        promise = 5;
        NearPlans x = new NearPlans();
        x.decision(1, 3, 0);
        is("pin(1, 0)", x.pin(1, 0), UNKNOWN);
        is("pin(-1, NONE)", x.pin(-1, NONE), UNKNOWN);
        int[] wrong = {0, 4, -1, -2, -3, -4, -6, 6, MIN, MAX};
        for (int w : wrong) is("pin(0, " + w + ")", x.pin(0, w), OUTSIDE);
        is("near(0): not pinned", x.near(0), 3);
        is("pin(0, 3)", x.pin(0, 3), 1);
        is("value(0): the plan stays", x.value(0), 1);
        is("told(6)", x.told(6), 0);
        is("near(0)", x.near(0), 1);
        is("pin(0, 4), refused", x.pin(0, 4), OUTSIDE);
        is("run()", x.run(), 0);
        is("value(0)", x.value(0), 3);
        is("told(6)", x.told(6), 1);
        is("pin(0, 1)", x.pin(0, 1), 1);
        is("told(6)", x.told(6), 0);
        is("pin(0, NONE)", x.pin(0, NONE), 1);
        is("told(6)", x.told(6), 1);
        is("near(0)", x.near(0), 3);
    }

    private static void promise6Limit() {
        promise = 6;
        NearPlans x = new NearPlans();
        x.decision(0, 5, 3);
        x.decision(0, 5, 3);
        x.decision(0, 5, 1);
        int[][] wrong = {{-1, 0}, {4, 0}, {0, -1}, {0, 7}, {MAX, 0}, {0, MIN}};
        for (int[] w : wrong) is("limit(" + w[0] + ", " + w[1] + ")", x.limit(w[0], w[1]), OUTSIDE);
        is("limit(3, 1)", x.limit(3, 1), 6);
        x.put(0, 1);
        x.put(1, 1);
        x.put(2, 1);
        is("told(6): without a base nothing is moved", x.told(6), 1);
        x.keep();
        x.put(0, 2);
        is("told(6)", x.told(6), 1);
        x.put(1, 2);
        is("told(6)", x.told(6), 0);
        is("limit(3, 2)", x.limit(3, 2), 1);
        is("told(6)", x.told(6), 1);
        x.put(2, 0);
        is("told(6): another person's", x.told(6), 1);
        is("limit(1, 0)", x.limit(1, 0), 6);
        is("told(6)", x.told(6), 0);
        is("limit(1, 7), refused", x.limit(1, 7), OUTSIDE);
        is("limit(1, 6)", x.limit(1, 6), 0);
        for (int p = 0; p < 4; p++) limitOf(p);
        x.limit(3, 1);
        is("near(2000): 1 + 5 + 5 of person 3 times 6 of person 1", x.near(2000), 66);
    }

    private static void limitOf(int person) {
        NearPlans x = new NearPlans();
        x.decision(0, 1, person);
        x.keep();
        x.put(0, 1);
        x.limit(person, 0);
        is("told(6) of person " + person, x.told(6), 0);
        is("near(2000) of person " + person, x.near(2000), 1);
    }

    private static void promise7Fact() {
        promise = 7;
        NearPlans x = new NearPlans();
        int[] wrong = {-21, 21, MIN, MAX};
        for (int w : wrong) is("fact(" + w + ")", x.fact(w), OUTSIDE);
        is("change(0, 0)", x.change(0, 0), UNKNOWN);
        is("fact(-20)", x.fact(-20), 0);
        is("fact(20)", x.fact(20), 1);
        is("fact(0)", x.fact(0), 2);
        is("fact(0)", x.fact(0), 3);
        is("fact(0)", x.fact(0), 4);
        is("fact(7)", x.fact(7), 5);
        is("fact, a seventh", x.fact(0), ROOM);
        is("fact, a seventh outside", x.fact(21), OUTSIDE);
        is("change(5, 0)", x.change(5, 0), 7);
        is("change(0, 0)", x.change(0, 0), -20);
        x.decision(0, 1, 0);
        x.keep();
        is("fact, full and kept", x.fact(0), STATE);
        is("fact, outside and kept", x.fact(-21), OUTSIDE);
        NearPlans y = withDecisions(1);
        y.keep();
        is("fact, kept", y.fact(0), STATE);
    }

    private static void promise8Change() {
        promise = 8;
        NearPlans x = withDecisions(1);
        x.fact(3);
        x.fact(4);
        is("change(2, 0)", x.change(2, 0), UNKNOWN);
        is("change(-1, 21)", x.change(-1, 21), UNKNOWN);
        is("change(0, 21)", x.change(0, 21), OUTSIDE);
        is("change(0, -21)", x.change(0, -21), OUTSIDE);
        is("change(0, -1)", x.change(0, -1), 3);
        is("change(0, 20): it was -1", x.change(0, 20), -1);
        is("change(0, -20)", x.change(0, -20), 20);
        is("change(1, 4)", x.change(1, 4), 4);
        x.rule(1, 0, 0, 1);
        is("told(5)", x.told(5), 0);
        x.keep();
        is("change(1, -1), a plan is kept", x.change(1, -1), 4);
        is("told(5)", x.told(5), 1);
    }

    private static void promise9Rule() {
        promise = 9;
        NearPlans x = withDecisions(2);
        x.fact(0);
        is("rule(-1, 0, 0, 0)", x.rule(-1, 0, 0, 0), OUTSIDE);
        is("rule(6, 9, 9, 9)", x.rule(6, 9, 9, 9), OUTSIDE);
        is("rule(5, 0, 6, 9)", x.rule(5, 0, 6, 9), OUTSIDE);
        is("rule(5, 0, -1, 0)", x.rule(5, 0, -1, 0), OUTSIDE);
        for (int kind = 0; kind < 5; kind++) {
            is("rule(" + kind + ", 2, 0, 0)", x.rule(kind, 2, 0, 0), UNKNOWN);
            is("rule(" + kind + ", -1, 0, 0)", x.rule(kind, -1, 0, 0), UNKNOWN);
            is("rule(" + kind + ", 0, 2, 0)", x.rule(kind, 0, 2, 0), UNKNOWN);
            is("rule(" + kind + ", 0, -1, 0)", x.rule(kind, 0, -1, 0), UNKNOWN);
            is("rule(" + kind + ", 0, 0, 1)", x.rule(kind, 0, 0, 1), UNKNOWN);
        }
        is("rule(5, 0, 0, -1)", x.rule(5, 0, 0, -1), UNKNOWN);
        is("without(0): none came", x.without(0), UNKNOWN);
        is("rule(0, 0, 0, 0), a and b are one", x.rule(0, 0, 0, 0), 0);
        is("rule(5, -9, 5, 0), a is not looked at", x.rule(5, -9, 5, 0), 1);
        x.keep();
        is("rule(1, 1, 0, 0), a plan is kept", x.rule(1, 1, 0, 0), 2);
        for (int r = 3; r < 12; r++) is("rule " + r, x.rule(0, 1, 0, 0), r);
        is("rule, a thirteenth", x.rule(0, 1, 0, 0), ROOM);
        is("rule, a thirteenth unknown", x.rule(0, 1, 0, 3), UNKNOWN);
        is("rule, a thirteenth outside", x.rule(7, 1, 0, 0), OUTSIDE);
    }

    /** Of two values x, y: what told(4) is with one rule of the kind. */
    private static int brokenBy(int kind, int x, int y, int fact) {
        NearPlans plans = withDecisions(2);
        plans.fact(fact);
        plans.rule(kind, 0, 1, 0);
        plans.put(0, x);
        plans.put(1, y);
        return plans.told(4);
    }

    private static void promise9EachKind() {
        promise = 9;
        int[][] rows = {
            {0, 3, 1, 2, 0}, {0, 4, 1, 2, 1}, {0, 1, 4, -3, 0}, {0, 1, 4, -4, 1},
            {1, 2, 3, 5, 0}, {1, 3, 3, 5, 1}, {1, 0, 0, 0, 0}, {1, 0, 0, -1, 1},
            {2, 2, 3, 5, 0}, {2, 2, 2, 5, 1}, {2, 5, 5, 10, 0}, {2, 0, 0, -1, 0},
            {3, 1, 3, 2, 0}, {3, 3, 1, 2, 0}, {3, 3, 2, 2, 1}, {3, 2, 3, 2, 1}, {3, 2, 2, -1, 0},
            {4, 1, 3, 2, 0}, {4, 3, 1, 2, 0}, {4, 4, 1, 2, 1}, {4, 1, 4, 2, 1}, {4, 2, 2, -1, 1},
            {5, 0, 0, 0, 0}, {5, 0, 1, 1, 0}, {5, 1, 1, 1, 1}, {5, 1, 1, 2, 0}, {5, 0, 0, -1, 1}, {5, 1, 0, 0, 1}};
        for (int[] r : rows) {
            is("kind " + r[0] + " of " + r[1] + ", " + r[2] + " and " + r[3], brokenBy(r[0], r[1], r[2], r[3]), r[4]);
        }
        NearPlans x = new NearPlans();
        x.fact(0);
        x.rule(5, 0, 3, 0);
        is("told(4)", x.told(4), 0);
        x.decision(3, 3, 0);
        is("told(4): a later decision counts too", x.told(4), 1);
        NearPlans y = withDecisions(1);
        y.fact(4);
        y.rule(1, 0, 0, 0);
        y.put(0, 2);
        is("told(4): x + x", y.told(4), 0);
        y.put(0, 3);
        is("told(4): x + x", y.told(4), 1);
    }

    private static void promise10First() {
        promise = 10;
        NearPlans x = withDecisions(1);
        x.worth(0, 4, 9);
        x.keep();
        int[] wrong = {-1, 2, MIN, MAX};
        for (int w : wrong) is("first(" + w + ")", x.first(w), OUTSIDE);
        is("run(), near first at first", x.run(), 0);
        is("first(1)", x.first(1), 0);
        is("first(2), refused", x.first(2), OUTSIDE);
        is("first(1)", x.first(1), 1);
        is("least() is not asked for worth", x.least(), 0);
        is("run()", x.run(), 1);
        is("value(0)", x.value(0), 4);
        is("first(0)", x.first(0), 1);
        is("run()", x.run(), 0);
        is("value(0)", x.value(0), 0);
    }

    private static void promise11Put() {
        promise = 11;
        NearPlans x = new NearPlans();
        x.decision(1, 3, 0);
        x.decision(0, 5, 0);
        is("put(2, 0)", x.put(2, 0), UNKNOWN);
        is("put(-1, 9)", x.put(-1, 9), UNKNOWN);
        int[] wrong = {0, 4, -1, NONE, MIN, MAX};
        for (int w : wrong) is("put(0, " + w + ")", x.put(0, w), OUTSIDE);
        is("put(0, 3)", x.put(0, 3), 1);
        is("put(0, 1)", x.put(0, 1), 3);
        is("put(0, 1)", x.put(0, 1), 1);
        x.pin(0, 2);
        is("put(0, 3), pinned", x.put(0, 3), 1);
        is("value(0)", x.value(0), 3);
        is("value(1)", x.value(1), 0);
    }

    private static void promise12Value() {
        promise = 12;
        NearPlans x = new NearPlans();
        x.decision(2, 5, 0);
        is("value(0)", x.value(0), 2);
        is("value(1)", x.value(1), UNKNOWN);
        is("value(-1)", x.value(-1), UNKNOWN);
        is("value(MIN)", x.value(MIN), UNKNOWN);
        is("value(MAX)", x.value(MAX), UNKNOWN);
        x.put(0, 4);
        is("value(0)", x.value(0), 4);
    }

    private static void promise13Keep() {
        promise = 13;
        NearPlans x = new NearPlans();
        is("keep()", x.keep(), STATE);
        x.decision(0, 5, 0);
        is("keep()", x.keep(), 0);
        is("told(7)", x.told(7), 0);
        x.put(0, 3);
        is("told(3)", x.told(3), 1);
        is("keep()", x.keep(), 1);
        is("told(7)", x.told(7), 1);
        is("told(3)", x.told(3), 0);
        is("keep()", x.keep(), 2);
        x.base(0);
        is("keep(), a fourth", x.keep(), ROOM);
        is("told(7), nothing changed", x.told(7), 0);
        is("old(0, 0)", x.old(0, 0), 0);
        is("old(1, 0)", x.old(1, 0), 3);
    }

    private static void promise14Base() {
        promise = 14;
        NearPlans x = withDecisions(1);
        is("base(0)", x.base(0), UNKNOWN);
        x.keep();
        x.put(0, 2);
        x.keep();
        is("base(2)", x.base(2), UNKNOWN);
        is("base(-1)", x.base(-1), UNKNOWN);
        is("base(NONE)", x.base(NONE), UNKNOWN);
        is("told(7)", x.told(7), 1);
        is("base(0)", x.base(0), 1);
        is("told(7)", x.told(7), 0);
        is("told(2)", x.told(2), 1);
        is("base(0)", x.base(0), 0);
        is("base(1)", x.base(1), 0);
        is("told(2)", x.told(2), 0);
        is("value(0), the plan stays", x.value(0), 2);
    }

    private static void promise15Old() {
        promise = 15;
        NearPlans x = withDecisions(2);
        is("old(0, 0)", x.old(0, 0), UNKNOWN);
        x.put(1, 4);
        x.keep();
        x.put(1, 5);
        x.put(0, 1);
        x.keep();
        is("old(0, 0)", x.old(0, 0), 0);
        is("old(0, 1)", x.old(0, 1), 4);
        is("old(1, 0)", x.old(1, 0), 1);
        is("old(1, 1)", x.old(1, 1), 5);
        int[][] wrong = {{2, 0}, {-1, 0}, {0, 2}, {0, -1}, {MIN, 0}, {0, MAX}};
        for (int[] w : wrong) is("old(" + w[0] + ", " + w[1] + ")", x.old(w[0], w[1]), UNKNOWN);
    }

    private static void promise16Run() {
        promise = 16;
        NearPlans x = new NearPlans();
        is("run()", x.run(), STATE);
        x.fact(6);
        x.decision(0, 5, 0);
        x.decision(0, 5, 1);
        x.rule(2, 0, 1, 0);
        is("run(), no base", x.run(), 0);
        is("value(0): the lesser where they first differ", x.value(0), 1);
        is("value(1)", x.value(1), 5);
        x.keep();
        x.change(0, 9);
        x.weight(0, 5, 1);
        is("run()", x.run(), 8);
        is("value(0)", x.value(0), 4);
        is("value(1)", x.value(1), 5);
        x.change(0, 11);
        is("run(): none holds", x.run(), NONE);
        is("value(0), the plan stays", x.value(0), 4);
        x.change(0, 9);
        x.limit(0, 0);
        is("run(): person 0 is not moved", x.run(), NONE);
        x.limit(0, 1);
        x.pin(0, 5);
        is("run(): pinned", x.run(), 9);
        is("value(0)", x.value(0), 5);
        is("value(1)", x.value(1), 5);
    }

    private static void promise16Ties() {
        promise = 16;
        NearPlans x = withDecisions(2);
        x.fact(2);
        x.keep();
        x.rule(2, 0, 1, 0);
        is("run(): both may move, at one cost", x.run(), 1);
        is("value(0)", x.value(0), 0);
        is("value(1)", x.value(1), 2);
        x.worth(0, 3, 2);
        is("run(): of least cost the most worth", x.run(), 1);
        is("value(0)", x.value(0), 3);
        is("value(1)", x.value(1), 0);
        x.worth(1, 4, 3);
        x.first(1);
        is("run(): the most worth", x.run(), 2);
        is("value(0)", x.value(0), 3);
        is("value(1)", x.value(1), 4);
        x.worth(0, 3, 0);
        is("run(): of most worth the least cost", x.run(), 1);
        is("value(0)", x.value(0), 0);
        is("value(1)", x.value(1), 4);
        worthFirstTies();
    }

    private static void worthFirstTies() {
        NearPlans x = withDecisions(2);
        x.put(0, 4);
        x.keep();
        x.first(1);
        x.worth(0, 5, 6);
        x.worth(0, 2, 6);
        is("run(): of one worth and one cost the lesser value", x.run(), 1);
        is("value(0)", x.value(0), 2);
        x.weight(0, 1, 1);
        is("run(): 5 is nearer to 4", x.run(), 2);
        is("value(0)", x.value(0), 5);
        is("value(1)", x.value(1), 0);
        x.worth(1, 5, 1);
        is("run(): the most worth, at the highest values", x.run(), 3);
        is("value(0)", x.value(0), 5);
        is("value(1)", x.value(1), 5);
        x.pin(1, 3);
        is("run(): pinned", x.run(), 3);
        is("value(1)", x.value(1), 3);
    }

    private static void promise17Undo() {
        promise = 17;
        NearPlans x = new NearPlans();
        is("undo()", x.undo(), STATE);
        x.run();
        is("undo(): the run was refused", x.undo(), STATE);
        x.fact(0);
        x.decision(0, 5, 0);
        x.rule(1, 0, 0, 0);
        x.change(0, -1);
        x.run();
        is("undo(): the run was NONE", x.undo(), STATE);
        x.change(0, 0);
        for (int i = 1; i <= 5; i++) {
            x.put(0, i);
            is("run()", x.run(), 0);
        }
        x.put(0, 4);
        x.decision(1, 2, 0);
        x.put(1, 2);
        is("undo(), what was put behind it is gone", x.undo(), 4);
        is("value(0)", x.value(0), 5);
        is("value(1): it came behind the run and stays", x.value(1), 2);
        is("undo()", x.undo(), 3);
        is("value(0)", x.value(0), 4);
        is("run()", x.run(), 0);
        is("value(1)", x.value(1), 1);
        is("undo()", x.undo(), 3);
        is("value(0)", x.value(0), 4);
        is("value(1): it was there", x.value(1), 2);
        for (int i = 1; i <= 6; i++) {
            x.put(0, i == 6 ? 1 : i);
            x.run();
        }
        int[] before = {1, 5, 4, 3, 2, 1, 3, 2};
        for (int i = 0; i < 8; i++) {
            is("undo(), 8 are known", x.undo(), 7 - i);
            is("value(0)", x.value(0), before[i]);
        }
        is("undo(), the ninth is not known", x.undo(), STATE);
        is("value(0)", x.value(0), 2);
        undoAcrossDecisions();
    }

    /** Nine runs, before the last of them a decision came: each gives back what was there then. */
    private static void undoAcrossDecisions() {
        NearPlans x = withDecisions(1);
        for (int i = 0; i < 8; i++) x.run();
        x.decision(0, 5, 0);
        x.put(1, 4);
        is("run()", x.run(), 0);
        is("value(1)", x.value(1), 0);
        is("undo()", x.undo(), 7);
        is("value(1)", x.value(1), 4);
        x.put(1, 3);
        is("undo()", x.undo(), 6);
        is("value(1): it came behind that run", x.value(1), 3);
        NearPlans y = withDecisions(1);
        y.run();
        y.decision(0, 5, 0);
        y.put(1, 4);
        for (int i = 0; i < 8; i++) y.run();
        for (int i = 7; i >= 0; i--) is("undo()", y.undo(), i);
        is("value(1): it was there at the oldest known run", y.value(1), 4);
        is("undo()", y.undo(), STATE);
    }

    private static void promise18Told() {
        promise = 18;
        NearPlans x = new NearPlans();
        x.decision(0, 5, 0);
        x.decision(0, 5, 1);
        x.decision(0, 5, 1);
        x.fact(3);
        x.fact(1);
        x.rule(1, 0, 1, 0);
        x.rule(4, 1, 2, 1);
        x.rule(5, 0, 0, 1);
        x.weight(0, 4, 2);
        x.weight(2, 3, 1);
        x.worth(0, 2, 10);
        x.worth(2, 5, 7);
        is("told(7)", x.told(7), NONE);
        is("told(0)", x.told(0), 0);
        x.keep();
        is("told(5)", x.told(5), 4);
        x.put(0, 2);
        x.put(2, 5);
        int[] told = {4 + 4 + 3 + 5, 17, 2, 5, 1, 2, 1, 0};
        for (int i = 0; i < 8; i++) is("told(" + i + ")", x.told(i), told[i]);
        x.put(1, 2);
        x.limit(1, 1);
        int[] more = {17, 17, 3, 7, 2, 3, 0, 0};
        for (int i = 0; i < 8; i++) is("told(" + i + ")", x.told(i), more[i]);
        int[] wrong = {-1, 8, MIN, MAX};
        for (int w : wrong) is("told(" + w + ")", x.told(w), OUTSIDE);
        NearPlans y = new NearPlans();
        y.fact(-1);
        y.rule(5, 0, 0, 0);
        y.rule(5, 0, 3, 0);
        is("told(4), without a decision", y.told(4), 2);
        is("told(5), without a decision", y.told(5), 3);
    }

    private static void promise19Near() {
        promise = 19;
        NearPlans x = new NearPlans();
        is("near(-1)", x.near(-1), OUTSIDE);
        is("near(2001)", x.near(2001), OUTSIDE);
        is("near(0)", x.near(0), STATE);
        is("near(2000)", x.near(2000), STATE);
        x.decision(0, 5, 0);
        x.decision(0, 5, 1);
        is("near(0), without a base all cost 0", x.near(0), 36);
        x.keep();
        is("near(0)", x.near(0), 1);
        is("near(1)", x.near(1), 11);
        is("near(2)", x.near(2), 36);
        x.weight(0, 100, 20);
        is("near(2000)", x.near(2000), 36);
        is("near(1)", x.near(1), 6);
        is("near(119)", x.near(119), 6);
        is("near(120)", x.near(120), 7);
        is("near(121)", x.near(121), 12);
        x.fact(0);
        is("near(MIN)", x.near(MIN), OUTSIDE);
        NearPlans y = withDecisions(6);
        is("near(0), all there can be", y.near(0), 46656);
        y.decision(0, 0, 0);
        y.pin(3, 2);
        is("near(0)", y.near(0), 7776);
    }

    private static void promise20Least() {
        promise = 20;
        NearPlans x = new NearPlans();
        is("least()", x.least(), STATE);
        x.fact(0);
        x.decision(0, 5, 0);
        x.rule(2, 0, 0, 0);
        x.weight(0, 3, 2);
        is("least()", x.least(), 0);
        x.keep();
        x.worth(0, 5, 50);
        x.first(1);
        x.change(0, 3);
        is("least(), whatever it is worth", x.least(), 7);
        is("value(0), the plan stays", x.value(0), 0);
        x.change(0, 11);
        is("least()", x.least(), NONE);
        is("undo()", x.undo(), STATE);
    }

    private static void promise21Without() {
        promise = 21;
        NearPlans x = new NearPlans();
        is("without(0)", x.without(0), UNKNOWN);
        x.fact(-1);
        x.fact(4);
        x.rule(5, 0, 1, 0);
        is("without(0)", x.without(0), STATE);
        is("without(1)", x.without(1), UNKNOWN);
        is("without(-1)", x.without(-1), UNKNOWN);
        x.decision(0, 5, 0);
        x.rule(2, 0, 0, 1);
        x.weight(0, 2, 3);
        x.keep();
        is("without(0)", x.without(0), 8);
        is("without(1)", x.without(1), NONE);
        is("least(): the rule is still there", x.least(), NONE);
        x.change(0, 1);
        is("least()", x.least(), 8);
        is("without(0)", x.without(0), 8);
        is("without(1)", x.without(1), 0);
        is("without(2)", x.without(2), UNKNOWN);
        is("least()", x.least(), 8);
    }

    private static void promise22Spare() {
        promise = 22;
        NearPlans x = new NearPlans();
        int[] wrong = {-1, 4, MIN, MAX};
        for (int w : wrong) is("spare(" + w + ")", x.spare(w), OUTSIDE);
        is("spare(0)", x.spare(0), STATE);
        x.fact(0);
        x.decision(0, 5, 2);
        x.decision(0, 5, 3);
        x.rule(2, 0, 1, 0);
        x.weight(1, 9, 0);
        is("spare(2), without a base", x.spare(2), 0);
        x.keep();
        x.change(0, 5);
        is("least()", x.least(), 1);
        is("spare(0)", x.spare(0), 1);
        is("spare(2)", x.spare(2), 9);
        is("spare(3)", x.spare(3), 1);
        x.change(0, 6);
        is("spare(2)", x.spare(2), NONE);
        is("spare(3)", x.spare(3), NONE);
        is("spare(1)", x.spare(1), 10);
        is("limit(2, 6): it stays", x.limit(2, 6), 6);
        is("near(2000): it stays", x.near(2000), 15);
    }

    private static void promise23Why() {
        promise = 23;
        NearPlans x = withDecisions(3);
        x.fact(0);
        x.fact(0);
        x.fact(0);
        x.rule(2, 0, 0, 0);
        x.rule(2, 1, 1, 1);
        x.rule(2, 1, 1, 2);
        is("why(3)", x.why(3), UNKNOWN);
        is("why(-1)", x.why(-1), UNKNOWN);
        is("why(0), without a base", x.why(0), STATE);
        x.keep();
        is("why(0)", x.why(0), STATE);
        x.change(0, 2);
        x.change(1, 2);
        is("run()", x.run(), 2);
        is("why(0)", x.why(0), 0);
        is("why(1)", x.why(1), 1);
        is("why(2)", x.why(2), STATE);
        x.change(2, 4);
        is("why(1): two facts ask it", x.why(1), NONE);
        x.change(1, 0);
        x.change(2, 2);
        is("why(1): fact 1 is not another one", x.why(1), 2);
        x.put(2, 1);
        is("why(2): each of the changed facts will do, the least", x.why(2), 0);
        x.change(1, 11);
        is("why(2): with fact 0 as it was none holds", x.why(2), 1);
        x.change(0, 0);
        x.change(1, 0);
        x.change(2, 0);
        is("why(2): no fact is another one", x.why(2), NONE);
        whyByWorth();
    }

    private static void whyByWorth() {
        NearPlans x = withDecisions(1);
        x.fact(5);
        x.rule(1, 0, 0, 0);
        x.put(0, 2);
        x.worth(0, 1, 4);
        x.keep();
        x.change(0, 3);
        is("run()", x.run(), 1);
        is("value(0)", x.value(0), 1);
        is("why(0)", x.why(0), 0);
        x.first(1);
        is("why(0): worth 4 is better than staying", x.why(0), NONE);
        x.first(0);
        x.pin(0, 1);
        is("why(0): the pin stays", x.why(0), NONE);
    }

    private static void promise24Way() {
        promise = 24;
        NearPlans x = new NearPlans();
        is("way(0)", x.way(0), STATE);
        x.decision(0, 5, 0);
        x.decision(0, 5, 0);
        x.decision(0, 5, 0);
        is("way(0)", x.way(0), STATE);
        is("way(-1)", x.way(-1), STATE);
        x.keep();
        is("way(0): nothing is moved", x.way(0), NONE);
        x.put(2, 1);
        is("way(0)", x.way(0), 2);
        is("way(1)", x.way(1), NONE);
        x.put(0, 1);
        is("way(0)", x.way(0), 0);
        is("way(1)", x.way(1), 2);
        is("way(2)", x.way(2), NONE);
        is("way(-1)", x.way(-1), NONE);
        is("way(MIN)", x.way(MIN), NONE);
        is("way(MAX)", x.way(MAX), NONE);
    }

    private static void promise24WayOrder() {
        promise = 24;
        NearPlans x = withDecisions(2);
        x.fact(0);
        x.put(1, 1);
        x.keep();
        x.put(0, 1);
        x.put(1, 2);
        x.rule(0, 0, 1, 0);
        is("way(0): no rule is broken, the lesser decision", x.way(0), 0);
        x.change(0, -1);
        is("way(0): x0 - x1 is at most -1", x.way(0), 1);
        is("way(1)", x.way(1), 0);
        peakBeforeSum();
        sumBeforeNumber();
    }

    /**
     * Behind {0} no rule is broken, behind {2} and {1, 2} two are, behind all other sets three: by
     * 0, 1, 2 there are three together, by 2, 1, 0 four, but never three at once.
     */
    private static void peakBeforeSum() {
        NearPlans x = withDecisions(3);
        x.fact(2);
        x.fact(1);
        x.fact(0);
        for (int i = 0; i < 3; i++) x.rule(5, 0, 1, 0);
        for (int i = 0; i < 3; i++) x.rule(2, 1, 2, 1);
        for (int i = 0; i < 2; i++) x.rule(0, 2, 0, 2);
        x.put(1, 1);
        x.keep();
        x.put(0, 1);
        x.put(1, 0);
        x.put(2, 1);
        int[] way = {2, 1, 0};
        int[] broken = {2, 2, 0};
        for (int i = 0; i < 3; i++) {
            is("way(" + i + ")", x.way(i), way[i]);
            is("broken(" + i + ")", x.broken(i), broken[i]);
        }
    }

    /** By 0, 1, 2 the rule is broken behind two steps; by 0, 2, 1 behind one, as by 1, 0, 2. */
    private static void sumBeforeNumber() {
        NearPlans x = withDecisions(3);
        x.fact(0);
        x.rule(4, 0, 2, 0);
        x.keep();
        for (int d = 0; d < 3; d++) x.put(d, 1);
        is("way(0)", x.way(0), 0);
        is("way(1)", x.way(1), 2);
        is("way(2)", x.way(2), 1);
    }

    private static void promise25Broken() {
        promise = 25;
        NearPlans x = new NearPlans();
        is("broken(0)", x.broken(0), STATE);
        x.decision(0, 5, 0);
        x.decision(0, 5, 0);
        x.fact(0);
        is("broken(-1)", x.broken(-1), STATE);
        x.rule(4, 0, 1, 0);
        x.rule(0, 1, 0, 0);
        x.keep();
        is("broken(0): nothing is moved", x.broken(0), NONE);
        x.put(0, 2);
        x.put(1, 2);
        is("way(0)", x.way(0), 0);
        is("broken(0)", x.broken(0), 1);
        is("broken(1)", x.broken(1), 0);
        is("broken(2)", x.broken(2), NONE);
        is("broken(-1)", x.broken(-1), NONE);
        is("broken(MIN)", x.broken(MIN), NONE);
        is("broken(MAX)", x.broken(MAX), NONE);
        x.change(0, -1);
        is("broken(0), the facts as they are now", x.broken(0), 1);
        is("broken(1)", x.broken(1), 2);
        x.change(0, 3);
        is("broken(0)", x.broken(0), 0);
    }

    private static void promise26Clash() {
        promise = 26;
        NearPlans x = new NearPlans();
        is("clash(-1)", x.clash(-1), STATE);
        is("clash(0)", x.clash(0), STATE);
        x.fact(5);
        x.fact(4);
        x.fact(0);
        x.decision(0, 5, 0);
        x.decision(0, 5, 0);
        is("clash(-1): all hold", x.clash(-1), NONE);
        is("clash(0)", x.clash(0), NONE);
        x.rule(4, 0, 0, 2);
        x.rule(2, 0, 1, 0);
        x.rule(1, 1, 1, 2);
        is("clash(-1)", x.clash(-1), NONE);
        x.rule(1, 0, 1, 1);
        is("clash(-1)", x.clash(-1), 2);
        is("clash(0)", x.clash(0), 1);
        is("clash(1)", x.clash(1), 3);
        is("clash(2)", x.clash(2), NONE);
        is("clash(-2)", x.clash(-2), NONE);
        is("clash(MIN)", x.clash(MIN), NONE);
        is("clash(MAX)", x.clash(MAX), NONE);
        x.keep();
        x.limit(0, 0);
        is("clash(-1): the base breaks rule 1", x.clash(-1), 1);
        is("clash(0)", x.clash(0), 1);
        x.pin(0, 1);
        is("clash(-1): no plan is allowed", x.clash(-1), 0);
        is("clash(0)", x.clash(0), NONE);
        x.limit(0, 1);
        is("clash(-1)", x.clash(-1), 1);
        is("value(0), the plan stays", x.value(0), 0);
    }

    private static void promise26ClashOrder() {
        promise = 26;
        NearPlans x = withDecisions(4);
        x.fact(8);
        x.fact(1);
        x.rule(2, 2, 3, 0);
        x.rule(2, 0, 1, 0);
        x.rule(1, 0, 1, 1);
        x.rule(1, 2, 3, 1);
        is("clash(-1): rules 0, 3 and rules 1, 2", x.clash(-1), 2);
        is("clash(0): the lesser where they first differ", x.clash(0), 0);
        is("clash(1)", x.clash(1), 3);
        x.fact(11);
        x.rule(2, 3, 3, 2);
        is("clash(-1): fewer rules come first", x.clash(-1), 1);
        is("clash(0)", x.clash(0), 4);
        NearPlans w = withDecisions(2);
        w.fact(8);
        w.fact(1);
        w.rule(2, 0, 1, 0);
        w.rule(1, 0, 1, 1);
        w.rule(2, 0, 1, 0);
        w.rule(1, 0, 1, 1);
        is("clash(-1): rules 0 or 2 with 1 or 3", w.clash(-1), 2);
        is("clash(0)", w.clash(0), 0);
        is("clash(1)", w.clash(1), 1);
        NearPlans y = new NearPlans();
        y.fact(1);
        y.fact(2);
        for (int d = 0; d < 3; d++) y.decision(0, 2, 0);
        y.rule(3, 0, 1, 1);
        y.rule(3, 1, 2, 1);
        y.rule(3, 0, 2, 1);
        is("clash(-1): three values 2 apart each of 0 to 2", y.clash(-1), 3);
        for (int i = 0; i < 3; i++) is("clash(" + i + ")", y.clash(i), i);
        is("clash(3)", y.clash(3), NONE);
        NearPlans z = withDecisions(6);
        z.fact(0);
        for (int v = 0; v < 6; v++) z.rule(5, 0, v, 0);
        is("clash(-1): no value may be had", z.clash(-1), 6);
        is("clash(5)", z.clash(5), 5);
        is("clash(6)", z.clash(6), NONE);
    }

    /** As much of all as there can be: six decisions that all move as far as they can, twelve rules. */
    private static void fullHouse() {
        promise = 18;
        NearPlans x = withDecisions(6);
        for (int f = 0; f < 6; f++) x.fact(0);
        for (int r = 0; r < 12; r++) x.rule(1, r / 2, r / 2, r / 2);
        for (int d = 0; d < 6; d++) {
            x.weight(d, 100, 20);
            x.worth(d, 5, 100);
        }
        x.keep();
        for (int d = 0; d < 6; d++) x.put(d, 5);
        int[] told = {1200, 600, 6, 63, 12, 4095, 1, 0};
        for (int i = 0; i < 8; i++) is("told(" + i + ")", x.told(i), told[i]);
        for (int i = 0; i < 6; i++) {
            is("way(" + i + ")", x.way(i), i);
            is("broken(" + i + ")", x.broken(i), 2 * i + 2);
        }
        for (int f = 0; f < 6; f++) x.change(f, 10);
        is("way(6)", x.way(6), NONE);
        is("near(1199)", x.near(1199), 46655);
        is("near(1200)", x.near(1200), 46656);
        x.pin(5, 5);
        is("why(5): pinned, whichever of the six facts were as it was", x.why(5), NONE);
        x.pin(5, NONE);
        is("why(5): near first the base is best", x.why(5), 0);
        x.first(1);
        for (int d = 0; d < 6; d++) is("why(" + d + ")", x.why(d), d);
        is("run()", x.run(), 1200);
        for (int i = 0; i < 6; i++) x.change(i, -20);
        is("clash(-1)", x.clash(-1), 1);
        is("clash(0)", x.clash(0), 0);
        is("without(11)", x.without(11), NONE);
    }
}
