/** The document's Terms: a test of its own for each of their sentences that names a boundary. */
public final class TermsTest {
    private static final int UNKNOWN = -1, OUTSIDE = -2, STATE = -3, ROOM = -4, NONE = -5;
    private static final int MIN = Integer.MIN_VALUE, MAX = Integer.MAX_VALUE;

    private static final Due due = new Due("terms");

    public static void main(String[] args) {
        callsOfAnObject();
        numbersFromNought();
        sixDecisions();
        lowToHigh();
        lowAtFirst();
        fourPersons();
        weightAndPerAtFirst();
        worthAtFirst();
        notPinnedAtFirst();
        sixFacts();
        twelveRules();
        differenceAtMost();
        sumAtMost();
        sumAtLeast();
        farApart();
        nearEachOther();
        soManyAtMost();
        countedAmongAll();
        firstOfACountIsNotLookedAt();
        bothMayBeOne();
        rulesOutOfReach();
        threeKept();
        keptAsTheyWere();
        factsKeptAsTheyWere();
        baseAtFirst();
        baseIsTheLatest();
        moved();
        nothingMovedWithoutBase();
        costOfTheMoved();
        worthIsASum();
        allowedByPins();
        allowedByLimits();
        limitAtFirst();
        limitsApart();
        holds();
        nearFirst();
        worthFirst();
        greatestWorthOfAll();
        lesserWhereTheyFirstDiffer();
        nearFirstAtFirst();
        wayOfTheMoved();
        brokenBehindAStep();
        leastPeak();
        leastSum();
        lesserDecision();
        wayAmongTheMovedAlone();
        wayAnew();
        clashOfTheFewest();
        clashOfTheLesser();
        noClashIfOneHolds();
        clashOfNone();
        due.end();
    }

    private static NearPlans withDecisions(int n) {
        NearPlans x = new NearPlans();
        for (int d = 0; d < n; d++) x.decision(0, 5, 0);
        return x;
    }

    private static void putAll(NearPlans x, int... values) {
        for (int d = 0; d < values.length; d++) x.put(d, values[d]);
    }

    private static void values(String when, NearPlans x, int... want) {
        for (int d = 0; d < want.length; d++) due.is(when + ", value(" + d + ")", x.value(d), want[d]);
    }

    /** Each round of eight calls moves the plan and takes it back; the last call is the 512th. */
    private static void callsOfAnObject() {
        due.sentence("An object is used for at most 512 calls after it has been made");
        NearPlans x = new NearPlans();
        x.decision(0, 5, 0);
        x.fact(0);
        x.rule(2, 0, 0, 0);
        x.keep();
        int calls = 4;
        for (int round = 0; calls + 8 <= 508; round++, calls += 8) {
            int far = round % 5 + 1;
            due.is("change(0, ..)", x.change(0, 2 * far), 0);
            due.is("run()", x.run(), 1);
            due.is("value(0)", x.value(0), far);
            due.is("why(0)", x.why(0), 0);
            due.is("way(0)", x.way(0), 0);
            due.is("broken(0)", x.broken(0), 0);
            due.is("undo()", x.undo(), 0);
            due.is("change(0, 0)", x.change(0, 0), 2 * far);
        }
        for (; calls < 511; calls++) due.is("run()", x.run(), 0);
        due.is("undo(), call 512", x.undo(), 2);
        for (int more = 0; more < 1000; more++) {
            x.run();
            x.undo();
            x.clash(more);
            x.put(0, more % 6);
        }
    }

    private static void numbersFromNought() {
        due.sentence("Whatever has a number has it from 0 on, in the order in which it came");
        NearPlans x = new NearPlans();
        for (int i = 0; i < 3; i++) {
            due.is("decision, refused", x.decision(0, 6, 0), OUTSIDE);
            due.is("decision " + i, x.decision(i, 5, 0), i);
            due.is("fact, refused", x.fact(21), OUTSIDE);
            due.is("fact " + i, x.fact(i + 7), i);
            due.is("rule, refused", x.rule(6, 0, 0, 0), OUTSIDE);
            due.is("rule " + i, x.rule(1, i, i, i), i);
        }
        for (int i = 0; i < 3; i++) {
            x.put(0, i);
            due.is("keep " + i, x.keep(), i);
        }
        for (int i = 0; i < 3; i++) {
            due.is("value(" + i + ")", x.value(i), i == 0 ? 2 : i);
            due.is("old(" + i + ", 0)", x.old(i, 0), i);
            due.is("change(" + i + ", -1)", x.change(i, -1), i + 7);
            due.is("told(5)", x.told(5), (2 << i) - 1);
        }
    }

    private static void sixDecisions() {
        due.sentence("DECISIONS (6 at most)");
        NearPlans x = new NearPlans();
        for (int d = 0; d < 6; d++) due.is("decision", x.decision(0, 5, 0), d);
        for (int i = 0; i < 3; i++) due.is("decision, one too many", x.decision(0, 5, 0), ROOM);
        for (int d = 0; d < 6; d++) due.is("put(" + d + ", 5)", x.put(d, 5), 0);
        due.is("put(6, 5)", x.put(6, 5), UNKNOWN);
        due.is("near(0): six of six values", x.near(0), 46656);
    }

    private static void lowToHigh() {
        due.sentence("a VALUE of low .. high (both 0 to 5)");
        for (int low = -2; low <= 7; low++) {
            for (int high = -2; high <= 7; high++) {
                NearPlans x = new NearPlans();
                boolean may = low >= 0 && high <= 5 && low <= high;
                due.is("decision(" + low + ", " + high + ", 0)", x.decision(low, high, 0), may ? 0 : OUTSIDE);
                due.is("near(0)", x.near(0), may ? high - low + 1 : STATE);
                for (int v = -1; v <= 6; v++) {
                    int now = x.value(0);
                    int want = !may ? UNKNOWN : v >= low && v <= high ? now : OUTSIDE;
                    due.is("put(0, " + v + ") of " + low + " to " + high, x.put(0, v), want);
                }
                due.is("value(0)", x.value(0), may ? high : UNKNOWN);
            }
        }
    }

    private static void lowAtFirst() {
        due.sentence("low at first");
        NearPlans x = new NearPlans();
        for (int low = 0; low < 6; low++) {
            x.decision(low, 5, 0);
            due.is("value(" + low + ")", x.value(low), low);
        }
    }

    private static void fourPersons() {
        due.sentence("a PERSON (0 to 3)");
        int[] persons = {MIN, -2, -1, 0, 1, 2, 3, 4, 5, MAX};
        for (int p : persons) {
            NearPlans x = new NearPlans();
            boolean may = p >= 0 && p <= 3;
            due.is("decision(0, 1, " + p + ")", x.decision(0, 1, p), may ? 0 : OUTSIDE);
            due.is("limit(" + p + ", 0)", x.limit(p, 0), may ? 6 : OUTSIDE);
            x.keep();
            due.is("near(2000): it may not be moved", x.near(2000), may ? 1 : STATE);
            due.is("spare(" + p + ")", x.spare(p), may ? 0 : OUTSIDE);
        }
    }

    private static void weightAndPerAtFirst() {
        due.sentence("a WEIGHT and a PER (1 and 0 at first)");
        NearPlans x = withDecisions(6);
        x.keep();
        for (int d = 0; d < 6; d++) {
            for (int v = 1; v < 6; v++) {
                x.put(d, v);
                due.is("told(0), decision " + d + " at " + v, x.told(0), d + 1);
            }
        }
    }

    private static void worthAtFirst() {
        due.sentence("a WORTH of each VALUE (0 at first)");
        NearPlans x = withDecisions(6);
        for (int d = 0; d < 6; d++) {
            for (int v = 0; v < 6; v++) {
                x.put(d, v);
                due.is("told(1)", x.told(1), 0);
                due.is("worth(" + d + ", " + v + ", 1)", x.worth(d, v, 1), 0);
                x.worth(d, v, 0);
            }
        }
    }

    private static void notPinnedAtFirst() {
        due.sentence("A DECISION may be PINNED to a VALUE");
        NearPlans x = withDecisions(2);
        for (int v = 0; v < 6; v++) {
            putAll(x, v, v);
            due.is("told(6), not pinned at first", x.told(6), 1);
        }
        due.is("near(0)", x.near(0), 36);
        x.pin(1, 0);
        due.is("near(0), pinned to the least", x.near(0), 6);
        due.is("told(6)", x.told(6), 0);
        x.put(1, 0);
        due.is("told(6)", x.told(6), 1);
    }

    private static void sixFacts() {
        due.sentence("FACTS (6 at most)");
        NearPlans x = new NearPlans();
        for (int f = 0; f < 6; f++) due.is("fact", x.fact(f), f);
        for (int i = 0; i < 3; i++) due.is("fact, one too many", x.fact(9), ROOM);
        for (int f = 0; f < 6; f++) due.is("change(" + f + ", 0)", x.change(f, 0), f);
        due.is("change(6, 0)", x.change(6, 0), UNKNOWN);
        x.decision(0, 5, 0);
        due.is("rule about the last fact", x.rule(2, 0, 0, 5), 0);
        due.is("rule about none", x.rule(2, 0, 0, 6), UNKNOWN);
    }

    private static void twelveRules() {
        due.sentence("RULES (12 at most)");
        NearPlans x = withDecisions(1);
        x.fact(-1);
        for (int r = 0; r < 12; r++) {
            due.is("rule", x.rule(1, 0, 0, 0), r);
            due.is("told(4)", x.told(4), r + 1);
            due.is("told(5)", x.told(5), (2 << r) - 1);
        }
        for (int i = 0; i < 3; i++) due.is("rule, one too many", x.rule(1, 0, 0, 0), ROOM);
        due.is("rule, one too many of kind 5", x.rule(5, 0, 0, 0), ROOM);
        due.is("told(5)", x.told(5), 4095);
        due.is("without(11)", x.without(11), NONE);
        due.is("without(12)", x.without(12), UNKNOWN);
    }

    /** Of all values, with the facts just below, at and just above the bound. */
    private static void kind(int kind, int x, int y, int bound, boolean holdsBelow) {
        for (int more = -1; more <= 1; more++) {
            NearPlans plans = withDecisions(2);
            plans.fact(bound + more);
            plans.rule(kind, 0, 1, 0);
            putAll(plans, x, y);
            boolean holds = more == 0 || more < 0 == holdsBelow;
            String when = "kind " + kind + " of " + x + ", " + y + " and " + (bound + more);
            due.is(when + ", told(4)", plans.told(4), holds ? 0 : 1);
            due.is(when + ", told(5)", plans.told(5), holds ? 0 : 1);
            plans.pin(0, x);
            plans.pin(1, y);
            due.is(when + ", near(0)", plans.near(0), holds ? 1 : 0);
        }
    }

    private static void differenceAtMost() {
        due.sentence("kind 0: x - y is at most F");
        for (int x = 0; x < 6; x++) for (int y = 0; y < 6; y++) kind(0, x, y, x - y, false);
    }

    private static void sumAtMost() {
        due.sentence("1: x + y is at most F");
        for (int x = 0; x < 6; x++) for (int y = 0; y < 6; y++) kind(1, x, y, x + y, false);
    }

    private static void sumAtLeast() {
        due.sentence("2: x + y is at least F");
        for (int x = 0; x < 6; x++) for (int y = 0; y < 6; y++) kind(2, x, y, x + y, true);
    }

    private static void farApart() {
        due.sentence("3: x and y are F or more apart");
        for (int x = 0; x < 6; x++) for (int y = 0; y < 6; y++) kind(3, x, y, x > y ? x - y : y - x, true);
    }

    private static void nearEachOther() {
        due.sentence("4: they are at most F apart");
        for (int x = 0; x < 6; x++) for (int y = 0; y < 6; y++) kind(4, x, y, x > y ? x - y : y - x, false);
    }

    private static void soManyAtMost() {
        due.sentence("5: at most F DECISIONS have the VALUE b (0 to 5)");
        for (int b = 0; b < 6; b++) {
            NearPlans x = withDecisions(6);
            x.fact(-1);
            x.rule(5, 0, b, 0);
            for (int d = 0; d < 6; d++) x.put(d, b == 0 ? 1 : 0);
            for (int many = 0; many <= 6; many++) {
                if (many > 0) x.put(6 - many, b);
                x.change(0, many - 1);
                due.is(many + " have " + b + ", one too many", x.told(4), 1);
                x.change(0, many);
                due.is(many + " have " + b + ", as many as may", x.told(4), 0);
                x.change(0, many + 1);
                due.is(many + " have " + b + ", one more may", x.told(4), 0);
            }
        }
        NearPlans y = withDecisions(1);
        y.fact(20);
        due.is("rule(5, 0, -1, 0)", y.rule(5, 0, -1, 0), OUTSIDE);
        due.is("rule(5, 0, 6, 0)", y.rule(5, 0, 6, 0), OUTSIDE);
    }

    /** Those which come behind the rule are counted, and those which can have no other value. */
    private static void countedAmongAll() {
        due.sentence("at most F DECISIONS have the VALUE b");
        NearPlans x = new NearPlans();
        x.fact(1);
        x.rule(5, 0, 4, 0);
        x.decision(4, 4, 0);
        due.is("told(4)", x.told(4), 0);
        x.decision(4, 5, 1);
        due.is("told(4), a second has it", x.told(4), 1);
        due.is("near(0), the second can have another", x.near(0), 1);
        x.decision(4, 4, 2);
        due.is("near(0)", x.near(0), 0);
        due.is("clash(-1)", x.clash(-1), 1);
    }

    private static void firstOfACountIsNotLookedAt() {
        due.sentence("a is not looked at");
        int[] strange = {MIN, -1, 0, 1, 2, 6, 12, MAX};
        NearPlans x = withDecisions(1);
        x.fact(0);
        for (int i = 0; i < strange.length; i++) {
            due.is("rule(5, " + strange[i] + ", 0, 0)", x.rule(5, strange[i], 0, 0), i);
        }
        due.is("told(5)", x.told(5), 255);
        due.is("run()", x.run(), 0);
        due.is("told(5)", x.told(5), 0);
    }

    private static void bothMayBeOne() {
        due.sentence("a and b may be one");
        for (int v = 0; v < 6; v++) {
            int[] bounds = {0, 2 * v, 2 * v, 0, 0};
            boolean[] holdsBelow = {false, false, true, true, false};
            for (int kind = 0; kind < 5; kind++) {
                for (int more = -1; more <= 1; more++) {
                    NearPlans x = withDecisions(2);
                    x.fact(bounds[kind] + more);
                    due.is("rule(" + kind + ", 1, 1, 0)", x.rule(kind, 1, 1, 0), 0);
                    putAll(x, 5 - v, v);
                    boolean holds = more == 0 || more < 0 == holdsBelow[kind];
                    due.is("told(4), kind " + kind + " of " + v + " and " + (bounds[kind] + more), x.told(4), holds ? 0 : 1);
                }
            }
        }
    }

    private static void rulesOutOfReach() {
        due.sentence("FACTS are numbers");
        boolean[] atMost = {true, true, false, false, true, true};
        for (int kind = 0; kind < 6; kind++) {
            NearPlans x = withDecisions(6);
            x.fact(-20);
            x.rule(kind, 0, 1, 0);
            due.is("near(0), kind " + kind + " and -20", x.near(0), atMost[kind] ? 0 : 46656);
            x.change(0, 20);
            due.is("near(0), kind " + kind + " and 20", x.near(0), atMost[kind] ? 46656 : 0);
        }
    }

    private static void threeKept() {
        due.sentence("KEPT PLANS (3 at most)");
        NearPlans x = withDecisions(1);
        for (int k = 0; k < 3; k++) {
            x.put(0, k + 1);
            due.is("keep()", x.keep(), k);
        }
        x.put(0, 5);
        for (int i = 0; i < 3; i++) due.is("keep(), one too many", x.keep(), ROOM);
        for (int k = 0; k < 3; k++) due.is("old(" + k + ", 0)", x.old(k, 0), k + 1);
        due.is("old(3, 0)", x.old(3, 0), UNKNOWN);
        due.is("told(7)", x.told(7), 2);
    }

    private static void keptAsTheyWere() {
        due.sentence("THE PLAN as it was when it was kept");
        NearPlans x = withDecisions(6);
        putAll(x, 5, 4, 3, 2, 1, 0);
        x.keep();
        putAll(x, 0, 1, 2, 3, 4, 5);
        x.keep();
        x.run();
        for (int d = 0; d < 6; d++) {
            x.put(d, 3);
            due.is("old(0, " + d + ")", x.old(0, d), 5 - d);
            due.is("old(1, " + d + ")", x.old(1, d), d);
        }
    }

    /** Fact 5 was 0, then 2, then 4: why tells by which base it is another one. */
    private static void factsKeptAsTheyWere() {
        due.sentence("all FACTS as they were when it was kept");
        NearPlans x = withDecisions(1);
        for (int f = 0; f < 6; f++) x.fact(0);
        x.rule(2, 0, 0, 5);
        for (int k = 0; k < 3; k++) {
            x.change(5, 2 * k);
            x.put(0, k);
            x.keep();
        }
        x.change(5, 6);
        x.put(0, 3);
        for (int k = 0; k < 3; k++) {
            x.base(k);
            due.is("why(0), base " + k, x.why(0), 5);
            x.change(5, 2 * k);
            due.is("why(0), the fact is again as it was", x.why(0), NONE);
            x.change(5, 6);
        }
    }

    private static void baseAtFirst() {
        due.sentence("THE BASE: NONE at first");
        NearPlans x = withDecisions(1);
        due.is("told(7)", x.told(7), NONE);
        x.run();
        due.is("told(7)", x.told(7), NONE);
        x.keep();
        due.is("told(7)", x.told(7), 0);
    }

    private static void baseIsTheLatest() {
        due.sentence("THE BASE is one of them, the latest one kept or told");
        NearPlans x = withDecisions(1);
        for (int k = 0; k < 2; k++) {
            x.put(0, k);
            x.keep();
            due.is("told(7), kept", x.told(7), k);
        }
        due.is("base(0)", x.base(0), 1);
        due.is("told(7), told", x.told(7), 0);
        due.is("told(2)", x.told(2), 1);
        due.is("keep()", x.keep(), 2);
        due.is("told(7), kept again", x.told(7), 2);
        due.is("told(2)", x.told(2), 0);
        due.is("keep(), refused", x.keep(), ROOM);
        due.is("base(1)", x.base(1), 2);
        due.is("base(3), refused", x.base(3), UNKNOWN);
        due.is("told(7)", x.told(7), 1);
    }

    private static void moved() {
        due.sentence("A DECISION is MOVED by a PLAN, if its VALUE there is another one than in THE BASE");
        NearPlans x = withDecisions(6);
        for (int d = 0; d < 6; d++) x.put(d, 2);
        x.keep();
        for (int d = 0; d < 6; d++) {
            for (int v = 0; v < 6; v++) {
                x.put(d, v);
                due.is("told(3), decision " + d + " at " + v, x.told(3), v == 2 ? 0 : 1 << d);
                due.is("told(2)", x.told(2), v == 2 ? 0 : 1);
            }
            x.put(d, 2);
        }
        for (int d = 0; d < 6; d++) {
            x.put(d, 1);
            due.is("told(2)", x.told(2), d + 1);
            due.is("told(3)", x.told(3), (2 << d) - 1);
        }
    }

    private static void nothingMovedWithoutBase() {
        due.sentence("(without one: nothing is)");
        NearPlans x = withDecisions(2);
        x.weight(0, 100, 20);
        x.limit(0, 0);
        putAll(x, 5, 3);
        int[] told = {0, 0, 0, 0, 0, 0, 1};
        for (int i = 0; i < 7; i++) due.is("told(" + i + ")", x.told(i), told[i]);
        due.is("near(0)", x.near(0), 36);
        due.is("least()", x.least(), 0);
        due.is("spare(0)", x.spare(0), 0);
        due.is("why(0)", x.why(0), STATE);
        due.is("run()", x.run(), 0);
        values("run()", x, 0, 0);
    }

    private static void costOfTheMoved() {
        due.sentence("THE COST: for each that is MOVED its WEIGHT, and its PER times how far both VALUES are apart");
        for (int from = 0; from < 6; from++) {
            for (int to = 0; to < 6; to++) {
                NearPlans x = withDecisions(1);
                x.weight(0, 7, 3);
                x.put(0, from);
                x.keep();
                x.put(0, to);
                int far = from > to ? from - to : to - from;
                due.is("told(0), " + from + " to " + to, x.told(0), far == 0 ? 0 : 7 + 3 * far);
                x.weight(0, 0, 3);
                due.is("told(0), no weight", x.told(0), 3 * far);
                x.weight(0, 7, 0);
                due.is("told(0), no per", x.told(0), far == 0 ? 0 : 7);
                x.weight(0, 0, 0);
                due.is("told(0), neither", x.told(0), 0);
            }
        }
        NearPlans y = withDecisions(6);
        for (int d = 0; d < 6; d++) y.weight(d, 100, 20);
        y.keep();
        putAll(y, 5, 5, 5, 5, 5, 5);
        due.is("told(0), the greatest there is", y.told(0), 1200);
    }

    private static void worthIsASum() {
        due.sentence("Its WORTH: the sum of the WORTHS of its VALUES");
        NearPlans x = withDecisions(6);
        for (int d = 0; d < 6; d++) {
            x.worth(d, 0, d + 1);
            x.worth(d, 5, 100);
        }
        due.is("told(1)", x.told(1), 21);
        for (int d = 0; d < 6; d++) x.put(d, 1);
        due.is("told(1), none is worth anything", x.told(1), 0);
        for (int d = 0; d < 6; d++) {
            x.put(d, 5);
            due.is("told(1)", x.told(1), 100 * (d + 1));
        }
    }

    private static void allowedByPins() {
        due.sentence("A PLAN is ALLOWED, if PINNED ones have that");
        NearPlans x = withDecisions(6);
        for (int d = 0; d < 6; d++) x.pin(d, 5);
        for (int d = 0; d < 6; d++) {
            due.is("told(6), one has it not", x.told(6), 0);
            x.put(d, 5);
        }
        due.is("told(6), all have it", x.told(6), 1);
        due.is("near(0)", x.near(0), 1);
        x.put(0, 4);
        due.is("told(6)", x.told(6), 0);
    }

    private static void allowedByLimits() {
        due.sentence("of each PERSON's DECISIONS no more are MOVED than its LIMIT");
        for (int person = 0; person < 4; person++) {
            NearPlans x = new NearPlans();
            for (int d = 0; d < 6; d++) x.decision(0, 1, person);
            x.keep();
            int[] allowed = {1, 7, 22, 42, 57, 63, 64};
            for (int n = 0; n <= 6; n++) {
                if (n > 0) x.put(n - 1, 1);
                for (int limit = 0; limit <= 6; limit++) {
                    x.limit(person, limit);
                    due.is("told(6), " + n + " moved, limit " + limit, x.told(6), n <= limit ? 1 : 0);
                }
            }
            for (int limit = 0; limit <= 6; limit++) {
                x.limit(person, limit);
                due.is("near(2000), limit " + limit, x.near(2000), allowed[limit]);
            }
        }
    }

    private static void limitAtFirst() {
        due.sentence("its LIMIT (6 at first)");
        for (int person = 0; person < 4; person++) {
            NearPlans x = new NearPlans();
            for (int d = 0; d < 6; d++) x.decision(0, 1, person);
            x.keep();
            for (int d = 0; d < 6; d++) x.put(d, 1);
            due.is("told(6), all six are moved", x.told(6), 1);
            due.is("limit(" + person + ", 5)", x.limit(person, 5), 6);
            due.is("told(6)", x.told(6), 0);
        }
    }

    private static void limitsApart() {
        due.sentence("of each PERSON's DECISIONS");
        NearPlans x = new NearPlans();
        for (int p = 0; p < 4; p++) x.decision(0, 5, p);
        x.keep();
        putAll(x, 1, 1, 1, 1);
        for (int p = 0; p < 4; p++) x.limit(p, 1);
        due.is("told(6), each moves one", x.told(6), 1);
        for (int p = 0; p < 4; p++) {
            x.limit(p, 0);
            due.is("told(6)", x.told(6), 0);
            due.is("near(2000)", x.near(2000), 216);
            x.limit(p, 1);
        }
    }

    private static void holds() {
        due.sentence("It HOLDS, if it is ALLOWED and all RULES hold");
        NearPlans x = withDecisions(1);
        due.is("near(0), no rule", x.near(0), 6);
        x.fact(4);
        x.fact(6);
        x.rule(2, 0, 0, 0);
        due.is("near(0), 2 or more", x.near(0), 4);
        x.rule(1, 0, 0, 1);
        due.is("near(0), 2 or 3", x.near(0), 2);
        x.pin(0, 3);
        due.is("near(0)", x.near(0), 1);
        x.pin(0, 4);
        due.is("near(0), the pin breaks a rule", x.near(0), 0);
        due.is("run()", x.run(), NONE);
    }

    /** 0 to 4 cost 1, 5 would cost nothing but breaks the rule; 3 and 4 are worth the same. */
    private static void nearFirst() {
        due.sentence("NEAR FIRST: of the least COST, of these of the greatest WORTH");
        NearPlans x = withDecisions(1);
        x.fact(8);
        x.rule(1, 0, 0, 0);
        x.put(0, 5);
        x.keep();
        x.worth(0, 1, 6);
        x.worth(0, 3, 7);
        x.worth(0, 4, 7);
        x.worth(0, 5, 100);
        due.is("run(), all cost the same", x.run(), 1);
        values("worth 7, and the lesser", x, 3);
        x.weight(0, 1, 1);
        due.is("run(), 4 is the nearest", x.run(), 2);
        values("the nearest", x, 4);
        x.worth(0, 0, 99);
        due.is("run()", x.run(), 2);
        values("the nearest, whatever it is worth", x, 4);
    }

    private static void worthFirst() {
        due.sentence("WORTH FIRST: of the greatest WORTH, of these of the least COST");
        NearPlans x = withDecisions(1);
        x.put(0, 5);
        x.keep();
        x.first(1);
        due.is("run(), nothing is worth anything", x.run(), 0);
        values("the least cost", x, 5);
        x.weight(0, 1, 1);
        x.worth(0, 0, 1);
        due.is("run()", x.run(), 6);
        values("worth 1 before cost 6", x, 0);
        x.worth(0, 2, 1);
        due.is("run()", x.run(), 4);
        values("of the same worth the nearer", x, 2);
        x.worth(0, 5, 1);
        due.is("run()", x.run(), 0);
        values("of the same worth the base", x, 5);
    }

    /** What is worth most stands at the highest value of each, far behind the first plan of that cost. */
    private static void greatestWorthOfAll() {
        due.sentence("of the greatest WORTH");
        for (int which = 0; which < 2; which++) {
            NearPlans x = withDecisions(4);
            x.first(which);
            for (int d = 0; d < 4; d++) {
                x.weight(d, 0, 0);
                x.worth(d, 5, d + 1);
            }
            x.keep();
            due.is("run(), no move costs anything", x.run(), 0);
            values("all at the highest", x, 5, 5, 5, 5);
            due.is("told(1)", x.told(1), 10);
            x.worth(0, 0, 1);
            x.worth(3, 0, 4);
            due.is("run()", x.run(), 0);
            values("of the same worth the lesser", x, 0, 5, 5, 0);
            x.pin(1, 4);
            due.is("run()", x.run(), 0);
            values("without what the pinned one can't have", x, 0, 4, 5, 0);
        }
    }

    private static void lesserWhereTheyFirstDiffer() {
        due.sentence("then the one that has the lesser VALUE where they first differ, by DECISIONS' numbers");
        for (int which = 0; which < 2; which++) {
            NearPlans x = withDecisions(3);
            x.first(which);
            putAll(x, 5, 5, 5);
            due.is("run(), all are alike", x.run(), 0);
            values("the least of all", x, 0, 0, 0);
            x.fact(9);
            x.rule(2, 0, 1, 0);
            due.is("run()", x.run(), 0);
            values("4 and 5 before 5 and 4", x, 4, 5, 0);
            x.rule(2, 1, 2, 0);
            x.put(2, 0);
            due.is("run()", x.run(), 0);
            values("4, 5, 4", x, 4, 5, 4);
        }
    }

    private static void nearFirstAtFirst() {
        due.sentence("(NEAR FIRST at first.)");
        NearPlans x = withDecisions(1);
        x.worth(0, 1, 100);
        x.keep();
        due.is("run()", x.run(), 0);
        values("it stays", x, 0);
        due.is("first(0)", x.first(0), 0);
    }

    private static void wayOfTheMoved() {
        due.sentence("A WAY: a row of the DECISIONS that THE PLAN moves, each once");
        for (int moved = 0; moved < 64; moved++) {
            NearPlans x = withDecisions(6);
            x.keep();
            for (int d = 0; d < 6; d++) x.put(d, moved >> d & 1);
            int seen = 0;
            for (int i = 0; i < Integer.bitCount(moved); i++) seen |= 1 << x.way(i);
            due.is("the decisions of the way, as bits", seen, moved);
            due.is("way, the place behind the last", x.way(Integer.bitCount(moved)), NONE);
            due.is("broken, the place behind the last", x.broken(Integer.bitCount(moved)), NONE);
        }
    }

    /** The base breaks the rule, which no step counts; behind the last step THE PLAN's are counted. */
    private static void brokenBehindAStep() {
        due.sentence("A STEP's BROKEN are the RULES that do not hold behind it");
        NearPlans x = withDecisions(2);
        x.fact(1);
        x.fact(0);
        x.rule(2, 0, 1, 0);
        x.rule(5, 0, 5, 1);
        x.keep();
        due.is("told(4), in the base", x.told(4), 1);
        x.put(0, 1);
        due.is("broken(0), mended by the step", x.broken(0), 0);
        x.put(1, 5);
        due.is("broken(0)", x.broken(0), 0);
        due.is("broken(1), as in the plan", x.broken(1), 1);
        due.is("told(4)", x.told(4), 1);
    }

    /**
     * The sums are 3 by one, 1, other and 4 by other, 1, one; the peaks are 3 and 2. Decision 3 breaks
     * four rules more while it is moved too, which must not matter once it is not.
     */
    private static void leastPeak() {
        due.sentence("THE WAY: the one whose greatest number of BROKEN RULES is least");
        for (int one = 0; one <= 2; one += 2) {
            int other = 2 - one;
            NearPlans x = withDecisions(4);
            x.fact(2);
            x.fact(1);
            x.fact(0);
            for (int i = 0; i < 3; i++) x.rule(5, 0, 1, 0);
            for (int i = 0; i < 3; i++) x.rule(2, 1, other, 1);
            for (int i = 0; i < 2; i++) x.rule(0, other, one, 2);
            for (int i = 0; i < 4; i++) x.rule(1, 3, 3, 2);
            x.put(1, 1);
            x.keep();
            putAll(x, 1, 0, 1, 2);
            due.is("broken(3), with decision 3", x.broken(3), 4);
            x.put(3, 0);
            int[] way = {other, 1, one};
            int[] broken = {2, 2, 0};
            for (int i = 0; i < 3; i++) {
                due.is("way(" + i + ")", x.way(i), way[i]);
                due.is("broken(" + i + ")", x.broken(i), broken[i]);
            }
        }
    }

    private static void leastSum() {
        due.sentence("of these the one whose numbers of BROKEN RULES together are least");
        NearPlans x = withDecisions(3);
        x.fact(0);
        x.rule(4, 0, 2, 0);
        x.keep();
        putAll(x, 1, 1, 1);
        int[] way = {0, 2, 1};
        for (int i = 0; i < 3; i++) due.is("way(" + i + ")", x.way(i), way[i]);
    }

    private static void lesserDecision() {
        due.sentence("of these the one with the lesser DECISION where they first differ");
        NearPlans x = withDecisions(6);
        x.fact(0);
        x.keep();
        putAll(x, 1, 1, 1, 1, 1, 1);
        for (int i = 0; i < 6; i++) due.is("way(" + i + ")", x.way(i), i);
        x.rule(0, 0, 5, 0);
        int[] way = {1, 2, 3, 4, 5, 0};
        for (int i = 0; i < 6; i++) due.is("way(" + i + "), 5 before 0", x.way(i), way[i]);
    }

    /** 1 and 3 stay: they are in no way, and what they break counts behind each step. */
    private static void wayAmongTheMovedAlone() {
        due.sentence("the DECISIONS that THE PLAN moves");
        NearPlans x = withDecisions(5);
        x.fact(0);
        x.fact(3);
        putAll(x, 0, 4, 0, 4, 0);
        x.rule(0, 0, 2, 0);
        x.rule(0, 2, 4, 0);
        x.rule(1, 1, 3, 1);
        x.keep();
        putAll(x, 2, 4, 2, 4, 2);
        int[] way = {4, 2, 0};
        for (int i = 0; i < 3; i++) {
            due.is("way(" + i + ")", x.way(i), way[i]);
            due.is("broken(" + i + ")", x.broken(i), 1);
        }
        due.is("way(3)", x.way(3), NONE);
        for (int i = 0; i < 3; i++) x.rule(0, 4, 2, 0);
        int[] other = {2, 4, 0};
        for (int i = 0; i < 3; i++) {
            due.is("way(" + i + "), 4 before 2 breaks three more", x.way(i), other[i]);
            due.is("broken(" + i + ")", x.broken(i), i == 0 ? 2 : 1);
        }
    }

    /** Each way is found anew: what was broken on a longer one is nothing to a shorter one. */
    private static void wayAnew() {
        due.sentence("all begin as in THE BASE");
        NearPlans x = withDecisions(6);
        x.fact(0);
        for (int r = 0; r < 6; r++) x.rule(1, 5, 5, 0);
        x.rule(0, 0, 1, 0);
        x.rule(0, 1, 2, 0);
        x.keep();
        putAll(x, 1, 1, 1, 1, 1, 1);
        int[] all = {2, 1, 0, 3, 4, 5};
        for (int i = 0; i < 6; i++) {
            due.is("way(" + i + ")", x.way(i), all[i]);
            due.is("broken(" + i + ")", x.broken(i), i == 5 ? 6 : 0);
        }
        putAll(x, 1, 1, 0, 0, 0, 0);
        due.is("way(0), 2 is not moved", x.way(0), 0);
        due.is("broken(0)", x.broken(0), 1);
        due.is("broken(1), as in the plan", x.broken(1), 1);
        putAll(x, 1, 1, 1, 0, 0, 1);
        int[] some = {2, 1, 0, 5};
        for (int i = 0; i < 4; i++) due.is("way(" + i + ")", x.way(i), some[i]);
        x.keep();
        due.is("way(0)", x.way(0), NONE);
        putAll(x, 1, 1, 0, 1, 1, 0);
        int[] back = {5, 3, 4, 2};
        for (int i = 0; i < 4; i++) due.is("way(" + i + "), 5 mends six rules, 2 breaks one", x.way(i), back[i]);
    }

    private static void clashOfTheFewest() {
        due.sentence("THE CLASH: the one of the fewest RULES");
        NearPlans x = withDecisions(3);
        x.fact(0);
        x.fact(1);
        x.fact(5);
        x.rule(1, 0, 1, 0);
        x.rule(1, 1, 2, 0);
        x.rule(2, 0, 2, 1);
        due.is("clash(-1): all three are needed", x.clash(-1), 3);
        x.rule(2, 0, 0, 2);
        due.is("clash(-1): 3 clashes with 0 alone", x.clash(-1), 2);
        due.is("clash(0)", x.clash(0), 0);
        due.is("clash(1)", x.clash(1), 3);
        x.change(2, 11);
        due.is("clash(-1): 3 can't be kept", x.clash(-1), 1);
        due.is("clash(0)", x.clash(0), 3);
    }

    private static void clashOfTheLesser() {
        due.sentence("of these the one with the lesser RULE where they first differ (by rising numbers)");
        NearPlans x = withDecisions(1);
        x.fact(20);
        for (int r = 0; r < 12; r++) x.rule(2, 0, 0, 0);
        due.is("clash(-1): each of twelve alone", x.clash(-1), 1);
        due.is("clash(0)", x.clash(0), 0);
        NearPlans y = withDecisions(2);
        y.fact(4);
        y.fact(3);
        for (int r = 0; r < 11; r++) y.rule(r == 1 ? 1 : 2, 0, 1, r == 1 ? 1 : 0);
        y.rule(1, 0, 1, 1);
        due.is("clash(-1): 1 or 11 with any other", y.clash(-1), 2);
        due.is("clash(0)", y.clash(0), 0);
        due.is("clash(1): 1 before 11", y.clash(1), 1);
        NearPlans z = withDecisions(4);
        z.fact(8);
        z.fact(1);
        z.rule(2, 2, 3, 0);
        z.rule(2, 0, 1, 0);
        z.rule(1, 0, 1, 1);
        z.rule(1, 2, 3, 1);
        due.is("clash(-1): 0 and 3, or 1 and 2", z.clash(-1), 2);
        due.is("clash(0): 0 before 1, though 3 is above 2", z.clash(0), 0);
        due.is("clash(1)", z.clash(1), 3);
    }

    private static void noClashIfOneHolds() {
        due.sentence("None if some PLAN HOLDS");
        NearPlans x = withDecisions(2);
        due.is("clash(-1), no rule", x.clash(-1), NONE);
        x.fact(10);
        x.rule(2, 0, 1, 0);
        due.is("near(0): one alone", x.near(0), 1);
        for (int i = -2; i < 3; i++) due.is("clash(" + i + ")", x.clash(i), NONE);
        x.change(0, 11);
        due.is("clash(-1), none holds", x.clash(-1), 1);
    }

    private static void clashOfNone() {
        due.sentence("of no RULES, if no PLAN is ALLOWED");
        NearPlans x = withDecisions(1);
        x.keep();
        x.limit(0, 0);
        x.pin(0, 1);
        due.is("near(2000)", x.near(2000), 0);
        due.is("clash(-1), no rule at all", x.clash(-1), 0);
        due.is("clash(0)", x.clash(0), NONE);
        NearPlans y = withDecisions(1);
        y.fact(20);
        for (int r = 0; r < 12; r++) y.rule(2, 0, 0, 0);
        y.keep();
        y.limit(0, 0);
        due.is("clash(-1), the base is allowed", y.clash(-1), 1);
        y.pin(0, 1);
        due.is("clash(-1), twelve rules that can't be kept", y.clash(-1), 0);
        due.is("clash(0)", y.clash(0), NONE);
    }
}
