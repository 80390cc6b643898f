import java.util.ArrayList;
import java.util.List;
import java.util.Random;

/** Random runs of calls, each answer compared with that of NaivePlans. */
public final class OracleTest {
    private static final int UNKNOWN = -1, OUTSIDE = -2, STATE = -3, ROOM = -4, NONE = -5;

    private final Due due;
    private final Random random;
    private final NearPlans x = new NearPlans();
    private final NaivePlans y = new NaivePlans();
    private final int decisionsMeant, valuesMeant, rulesMeant;
    private final boolean wild;
    private final int[] kindOfFact = new int[6];
    private int calls = 0;

    private OracleTest(Due due, long seed) {
        this.due = due;
        random = new Random(seed);
        boolean large = random.nextInt(8) == 0;
        decisionsMeant = large ? 6 : random.nextInt(6) + 1;
        valuesMeant = large ? 6 : random.nextInt(decisionsMeant > 4 ? 3 : 5) + 2;
        rulesMeant = random.nextInt(13);
        wild = random.nextInt(5) == 0;
        for (int f = 0; f < 6; f++) kindOfFact[f] = random.nextInt(6);
    }

    public static void main(String[] args) {
        Due due = new Due("oracle");
        int runs = args.length > 0 ? Integer.parseInt(args[0]) : 400;
        for (int seed = 0; seed < runs && !due.failed(); seed++) new OracleTest(due, seed).whole();
        due.end();
    }

    private void whole() {
        int before = random.nextInt(4);
        for (int i = 0; i < before; i++) anyCall();
        for (int d = 0; d < decisionsMeant; d++) goodDecision();
        int facts = random.nextInt(6) + 1;
        for (int f = 0; f < facts; f++) fact(goodFact(f));
        for (int r = 0; r < rulesMeant; r++) goodRule();
        for (int d = 0; d < decisionsMeant; d++) {
            if (random.nextBoolean()) weight(d, random.nextInt(random.nextBoolean() ? 3 : 101), random.nextInt(random.nextBoolean() ? 3 : 21));
            for (int v = 0; v < 6; v++) if (random.nextInt(4) == 0) worth(d, v, random.nextInt(random.nextBoolean() ? 4 : 101));
        }
        if (random.nextBoolean()) run();
        if (random.nextInt(4) != 0) keep();
        while (calls < 200) anyCall();
    }

    /** One that most plans can live with, if the rules about it are of its kind. */
    private int goodFact(int fact) {
        if (wild || random.nextInt(20) == 0) return random.nextInt(41) - 20;
        int slack = random.nextInt(10) == 0 ? random.nextInt(2) : 1 + random.nextInt(3);
        switch (fact < 0 || fact > 5 ? 0 : kindOfFact[fact]) {
            case 0: return slack;
            case 1: return 3 + 2 * slack;
            case 2: return 6 - 2 * slack;
            case 3: return Math.max(0, 3 - slack);
            case 4: return slack;
            default: return 1 + slack;
        }
    }

    private void goodDecision() {
        int low = random.nextInt(6), high = Math.min(5, low + random.nextInt(valuesMeant));
        if (random.nextInt(4) > 0) {
            low = 0;
            high = Math.min(5, valuesMeant - 1);
        }
        decision(low, high, random.nextInt(4));
    }

    private void goodRule() {
        int n = Math.max(1, y.decisions.size());
        int fact = random.nextInt(Math.max(1, y.facts.size()));
        int kind = wild || fact > 5 ? random.nextInt(6) : kindOfFact[fact];
        int a = random.nextInt(n);
        int b = kind == 5 ? random.nextInt(6) : random.nextInt(n);
        if (a == b && kind != 5 && random.nextInt(8) > 0) b = (a + 1) % n;
        rule(kind, a, b, fact);
    }

    /** Mostly what fits, now and then what does not. */
    private int some(int most) {
        int luck = random.nextInt(40);
        if (luck == 0) return most + 1;
        if (luck == 1) return -1;
        if (luck == 2) return random.nextBoolean() ? Integer.MIN_VALUE : Integer.MAX_VALUE;
        if (luck == 3) return random.nextInt(20) - 8;
        return random.nextInt(Math.max(0, most) + 1);
    }

    private int someDecision() {
        return some(y.decisions.size() - 1);
    }

    private void anyCall() {
        switch (random.nextInt(28)) {
            case 0: decision(some(5), some(5), some(3)); break;
            case 1: weight(someDecision(), some(100), some(20)); break;
            case 2: worth(someDecision(), some(5), some(100)); break;
            case 3: pin(someDecision(), random.nextInt(3) > 0 ? NONE : some(5)); break;
            case 4: limit(some(3), random.nextInt(3) > 0 ? 6 : some(6)); break;
            case 5: fact(some(40) - 20); break;
            case 6: case 7: case 8: anyChange(); break;
            case 9: if (random.nextInt(3) > 0) goodRule(); else rule(some(5), someDecision(), random.nextBoolean() ? someDecision() : some(5), some(y.facts.size() - 1)); break;
            case 10: first(some(1)); break;
            case 11: case 12: put(someDecision(), some(5)); break;
            case 13: if (random.nextInt(3) == 0) keep(); break;
            case 14: run(); undo(); break;
            case 15: base(some(y.kept.size() - 1)); break;
            case 16: old(some(y.kept.size() - 1), someDecision()); break;
            case 17: case 18: run(); break;
            case 19: undo(); break;
            case 20: near(random.nextInt(3) == 0 ? some(2000) : some(60)); break;
            case 21: least(); break;
            case 22: without(some(y.rules.size() - 1)); break;
            case 23: spare(some(3)); break;
            case 24: case 25: why(someDecision()); break;
            case 26: if (random.nextBoolean()) shuffle(); way(); break;
            default: clash();
        }
        state();
    }

    private void shuffle() {
        for (int d = 0; d < y.decisions.size(); d++) put(d, random.nextInt(6));
    }

    private void anyChange() {
        int fact = some(y.facts.size() - 1);
        change(fact, random.nextInt(20) == 0 ? some(40) - 20 : goodFact(fact));
    }

    private void asked() {
        calls++;
    }

    private boolean unknown(int d) {
        return d < 0 || d >= y.decisions.size();
    }

    private static boolean out(int n, int low, int high) {
        return n < low || n > high;
    }

    private void decision(int low, int high, int person) {
        asked();
        int want;
        if (out(low, 0, 5) || out(high, 0, 5) || low > high || out(person, 0, 3)) want = OUTSIDE;
        else if (!y.kept.isEmpty()) want = STATE;
        else if (y.decisions.size() == 6) want = ROOM;
        else {
            want = y.decisions.size();
            NaivePlans.Decision d = new NaivePlans.Decision();
            d.low = low;
            d.high = high;
            d.person = person;
            d.value = low;
            y.decisions.add(d);
        }
        due.is("decision(" + low + ", " + high + ", " + person + ")", x.decision(low, high, person), want);
    }

    private void weight(int d, int weight, int per) {
        asked();
        int want = 1;
        if (unknown(d)) want = UNKNOWN;
        else if (out(weight, 0, 100) || out(per, 0, 20)) want = OUTSIDE;
        else {
            y.decisions.get(d).weight = weight;
            y.decisions.get(d).per = per;
        }
        due.is("weight(" + d + ", " + weight + ", " + per + ")", x.weight(d, weight, per), want);
    }

    private void worth(int d, int v, int worth) {
        asked();
        int want;
        if (unknown(d)) want = UNKNOWN;
        else if (out(v, 0, 5) || out(worth, 0, 100)) want = OUTSIDE;
        else {
            want = y.decisions.get(d).worth[v];
            y.decisions.get(d).worth[v] = worth;
        }
        due.is("worth(" + d + ", " + v + ", " + worth + ")", x.worth(d, v, worth), want);
    }

    private void pin(int d, int v) {
        asked();
        int want = 1;
        if (unknown(d)) want = UNKNOWN;
        else if (v != NONE && out(v, y.decisions.get(d).low, y.decisions.get(d).high)) want = OUTSIDE;
        else y.decisions.get(d).pin = v;
        due.is("pin(" + d + ", " + v + ")", x.pin(d, v), want);
    }

    private void limit(int person, int n) {
        asked();
        int want = OUTSIDE;
        if (!out(person, 0, 3) && !out(n, 0, 6)) {
            want = y.limits[person];
            y.limits[person] = n;
        }
        due.is("limit(" + person + ", " + n + ")", x.limit(person, n), want);
    }

    private void fact(int v) {
        asked();
        int want;
        if (out(v, -20, 20)) want = OUTSIDE;
        else if (!y.kept.isEmpty()) want = STATE;
        else if (y.facts.size() == 6) want = ROOM;
        else {
            want = y.facts.size();
            y.facts.add(v);
        }
        due.is("fact(" + v + ")", x.fact(v), want);
    }

    private void change(int f, int v) {
        asked();
        int want;
        if (f < 0 || f >= y.facts.size()) want = UNKNOWN;
        else if (out(v, -20, 20)) want = OUTSIDE;
        else want = y.facts.set(f, v);
        due.is("change(" + f + ", " + v + ")", x.change(f, v), want);
    }

    private void rule(int kind, int a, int b, int f) {
        asked();
        int want;
        if (out(kind, 0, 5) || kind == 5 && out(b, 0, 5)) want = OUTSIDE;
        else if (kind != 5 && (unknown(a) || unknown(b)) || f < 0 || f >= y.facts.size()) want = UNKNOWN;
        else if (y.rules.size() == 12) want = ROOM;
        else {
            want = y.rules.size();
            NaivePlans.Rule rule = new NaivePlans.Rule();
            rule.kind = kind;
            rule.a = a;
            rule.b = b;
            rule.fact = f;
            y.rules.add(rule);
        }
        due.is("rule(" + kind + ", " + a + ", " + b + ", " + f + ")", x.rule(kind, a, b, f), want);
    }

    private void first(int which) {
        asked();
        int want = OUTSIDE;
        if (which == 0 || which == 1) {
            want = y.worthFirst ? 1 : 0;
            y.worthFirst = which == 1;
        }
        due.is("first(" + which + ")", x.first(which), want);
    }

    private void put(int d, int v) {
        asked();
        int want;
        if (unknown(d)) want = UNKNOWN;
        else if (out(v, y.decisions.get(d).low, y.decisions.get(d).high)) want = OUTSIDE;
        else {
            want = y.decisions.get(d).value;
            y.decisions.get(d).value = v;
        }
        due.is("put(" + d + ", " + v + ")", x.put(d, v), want);
    }

    private void keep() {
        asked();
        int want;
        if (y.decisions.isEmpty()) want = STATE;
        else if (y.kept.size() == 3) want = ROOM;
        else {
            want = y.kept.size();
            NaivePlans.KeptPlan kept = new NaivePlans.KeptPlan();
            kept.plan = y.plan();
            kept.facts = new ArrayList<>(y.facts);
            y.kept.add(kept);
            y.base = want;
        }
        due.is("keep()", x.keep(), want);
    }

    private void base(int k) {
        asked();
        int want = UNKNOWN;
        if (k >= 0 && k < y.kept.size()) {
            want = y.base;
            y.base = k;
        }
        due.is("base(" + k + ")", x.base(k), want);
    }

    private void old(int k, int d) {
        asked();
        boolean known = k >= 0 && k < y.kept.size() && !unknown(d);
        due.is("old(" + k + ", " + d + ")", x.old(k, d), known ? y.kept.get(k).plan[d] : UNKNOWN);
    }

    private void run() {
        asked();
        due.is("run()", x.run(), y.decisions.isEmpty() ? STATE : y.run());
    }

    private void undo() {
        asked();
        due.is("undo()", x.undo(), y.runs.isEmpty() ? STATE : y.undo());
    }

    private void near(int n) {
        asked();
        int want = out(n, 0, 2000) ? OUTSIDE : y.decisions.isEmpty() ? STATE : y.near(n);
        due.is("near(" + n + ")", x.near(n), want);
    }

    private void least() {
        asked();
        due.is("least()", x.least(), y.decisions.isEmpty() ? STATE : y.least(-1));
    }

    private void without(int r) {
        asked();
        boolean known = r >= 0 && r < y.rules.size();
        int want = !known ? UNKNOWN : y.decisions.isEmpty() ? STATE : y.least(r);
        due.is("without(" + r + ")", x.without(r), want);
    }

    private void spare(int p) {
        asked();
        int want = out(p, 0, 3) ? OUTSIDE : y.decisions.isEmpty() ? STATE : y.spare(p);
        due.is("spare(" + p + ")", x.spare(p), want);
    }

    private void why(int d) {
        asked();
        int want = unknown(d) ? UNKNOWN : !y.moved(y.plan(), d) ? STATE : y.why(d);
        due.is("why(" + d + ")", x.why(d), want);
    }

    private void way() {
        asked();
        int[][] want = y.base == NONE ? null : y.way();
        for (int i = -1; i < 7; i++) {
            boolean there = want != null && i >= 0 && i < want.length;
            due.is("way(" + i + ")", x.way(i), want == null ? STATE : there ? want[i][0] : NONE);
            due.is("broken(" + i + ")", x.broken(i), want == null ? STATE : there ? want[i][1] : NONE);
        }
    }

    private void clash() {
        asked();
        boolean none = y.decisions.isEmpty();
        List<Integer> want = none ? null : y.clash();
        due.is("clash(-1)", x.clash(-1), none ? STATE : want == null ? NONE : want.size());
        for (int i = -3; i < 13; i++) {
            if (i == -1) continue;
            boolean there = want != null && i >= 0 && i < want.size();
            due.is("clash(" + i + ")", x.clash(i), none ? STATE : there ? want.get(i) : NONE);
        }
    }

    /** What is refused changes nothing, and nothing else changes what it should not. */
    private void state() {
        int[] plan = y.plan();
        for (int d = 0; d < plan.length; d++) due.is("value(" + d + ")", x.value(d), plan[d]);
        due.is("value(-1)", x.value(-1), UNKNOWN);
        due.is("value(" + plan.length + ")", x.value(plan.length), UNKNOWN);
        due.is("told(-1)", x.told(-1), OUTSIDE);
        due.is("told(0)", x.told(0), y.cost(plan));
        due.is("told(1)", x.told(1), y.worth(plan));
        due.is("told(2)", x.told(2), Integer.bitCount(y.movedBits(plan)));
        due.is("told(3)", x.told(3), y.movedBits(plan));
        due.is("told(4)", x.told(4), Integer.bitCount(y.brokenBits(plan)));
        due.is("told(5)", x.told(5), y.brokenBits(plan));
        due.is("told(6)", x.told(6), y.allowed(plan) ? 1 : 0);
        due.is("told(7)", x.told(7), y.base);
        due.is("told(8)", x.told(8), OUTSIDE);
    }
}
