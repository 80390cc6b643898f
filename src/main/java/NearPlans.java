/**
 * Plans near an old one: decisions whose values keep hard rules about facts; the facts change, and
 * of all plans that hold again the one is found that moves least (or is worth most).
 *
 * The methods here only refuse what the document refuses and hand the rest on; every row is made
 * once, with the object, because all calls of a run share one room.
 */
public final class NearPlans {
    public static final int UNKNOWN = -1, OUTSIDE = -2, STATE = -3, ROOM = -4, NONE = -5;

    private static final int DECISIONS = 6, FACTS = 6, RULES = 12, KEPT = 3, UNDOS = 8;
    private static final int PERSONS = 4, VALUES = 6;
    private static final int MOST_VALUE = VALUES - 1, MOST_FACT = 20, MOST_COST = 2000;
    private static final int MOST_WEIGHT = 100, MOST_PER = 20, MOST_WORTH = 100;
    private static final int KINDS = 6, COUNTING = 5;

    private final Decisions decisions;
    private final Rules rules;
    private final Kept keptPlans;
    private final Past past;
    private final Scale scale;
    private final Search search;
    private final Best best;
    private final Count count;
    private final Clash conflict;
    private final Route route;
    private final int[] plan;
    private boolean worthFirst;

    public NearPlans() {
        decisions = new Decisions();
        rules = new Rules();
        keptPlans = new Kept();
        past = new Past();
        scale = new Scale(decisions, keptPlans);
        search = new Search(decisions, rules, keptPlans, scale);
        best = new Best();
        count = new Count();
        conflict = new Clash();
        route = new Route(decisions, rules, keptPlans);
        plan = new int[DECISIONS];
        worthFirst = false;
    }

    // ---- what there is

    public int decision(int low, int high, int person) {
        if (!within(low, 0, MOST_VALUE) || !within(high, 0, MOST_VALUE)) return OUTSIDE;
        if (low > high || !within(person, 0, PERSONS - 1)) return OUTSIDE;
        if (keptPlans.number > 0) return STATE;
        if (decisions.number >= DECISIONS) return ROOM;
        int d = decisions.add(low, high, person);
        plan[d] = low;
        return d;
    }

    public int weight(int decision, int weight, int per) {
        if (!decisions.has(decision)) return UNKNOWN;
        if (!within(weight, 0, MOST_WEIGHT) || !within(per, 0, MOST_PER)) return OUTSIDE;
        decisions.weights[decision] = weight;
        decisions.pers[decision] = per;
        return 1;
    }

    public int worth(int decision, int value, int worth) {
        if (!decisions.has(decision)) return UNKNOWN;
        if (!within(value, 0, MOST_VALUE) || !within(worth, 0, MOST_WORTH)) return OUTSIDE;
        int before = decisions.worths[decision][value];
        decisions.worths[decision][value] = worth;
        return before;
    }

    public int pin(int decision, int value) {
        if (!decisions.has(decision)) return UNKNOWN;
        if (value != NONE && !decisions.mayHave(decision, value)) return OUTSIDE;
        decisions.pins[decision] = value;
        return 1;
    }

    public int limit(int person, int n) {
        if (!within(person, 0, PERSONS - 1) || !within(n, 0, DECISIONS)) return OUTSIDE;
        int before = decisions.limits[person];
        decisions.limits[person] = n;
        return before;
    }

    public int fact(int v) {
        if (!within(v, -MOST_FACT, MOST_FACT)) return OUTSIDE;
        if (keptPlans.number > 0) return STATE;
        if (rules.factNumber >= FACTS) return ROOM;
        return rules.addFact(v);
    }

    public int change(int fact, int v) {
        if (!rules.hasFact(fact)) return UNKNOWN;
        if (!within(v, -MOST_FACT, MOST_FACT)) return OUTSIDE;
        int before = rules.facts[fact];
        rules.facts[fact] = v;
        return before;
    }

    public int rule(int kind, int a, int b, int fact) {
        if (!within(kind, 0, KINDS - 1)) return OUTSIDE;
        if (kind == COUNTING && !within(b, 0, MOST_VALUE)) return OUTSIDE;
        if (kind != COUNTING && (!decisions.has(a) || !decisions.has(b))) return UNKNOWN;
        if (!rules.hasFact(fact)) return UNKNOWN;
        if (rules.number >= RULES) return ROOM;
        return rules.add(kind, a, b, fact);
    }

    public int first(int which) {
        if (!within(which, 0, 1)) return OUTSIDE;
        int before = worthFirst ? 1 : 0;
        worthFirst = which == 1;
        return before;
    }

    // ---- plans

    public int put(int decision, int value) {
        if (!decisions.has(decision)) return UNKNOWN;
        if (!decisions.mayHave(decision, value)) return OUTSIDE;
        int before = plan[decision];
        plan[decision] = value;
        return before;
    }

    public int value(int decision) {
        return decisions.has(decision) ? plan[decision] : UNKNOWN;
    }

    public int keep() {
        if (decisions.number == 0) return STATE;
        if (keptPlans.number >= KEPT) return ROOM;
        return keptPlans.add(plan, rules.facts);
    }

    public int base(int kept) {
        if (!keptPlans.has(kept)) return UNKNOWN;
        int before = keptPlans.current;
        keptPlans.current = kept;
        return before;
    }

    public int old(int kept, int decision) {
        if (!keptPlans.has(kept) || !decisions.has(decision)) return UNKNOWN;
        return keptPlans.plans[kept][decision];
    }

    public int run() {
        if (decisions.number == 0) return STATE;
        search.asNow();
        best.begin(worthFirst);
        search.seek(best);
        if (!best.found) return NONE;
        past.push(plan, decisions.number);
        System.arraycopy(best.values, 0, plan, 0, decisions.number);
        return best.cost;
    }

    public int undo() {
        if (past.number == 0) return STATE;
        past.pop(plan);
        return past.number;
    }

    public int told(int what) {
        switch (what) {
            case 0: return scale.costOf(plan);
            case 1: return scale.worthOf(plan);
            case 2: return Integer.bitCount(scale.movedBits(plan));
            case 3: return scale.movedBits(plan);
            case 4: return Integer.bitCount(brokenNow());
            case 5: return brokenNow();
            case 6: return scale.isAllowed(plan) ? 1 : 0;
            case 7: return keptPlans.current;
            default: return OUTSIDE;
        }
    }

    // ---- what it costs

    public int near(int n) {
        if (!within(n, 0, MOST_COST)) return OUTSIDE;
        if (decisions.number == 0) return STATE;
        search.asNow();
        count.begin(n);
        search.seek(count);
        return count.number;
    }

    public int least() {
        if (decisions.number == 0) return STATE;
        search.asNow();
        return leastCost();
    }

    public int without(int rule) {
        if (!rules.has(rule)) return UNKNOWN;
        if (decisions.number == 0) return STATE;
        search.asNow();
        search.leaveOut(rule);
        return leastCost();
    }

    public int spare(int person) {
        if (!within(person, 0, PERSONS - 1)) return OUTSIDE;
        if (decisions.number == 0) return STATE;
        search.asNow();
        search.hold(person);
        return leastCost();
    }

    public int why(int decision) {
        if (!decisions.has(decision)) return UNKNOWN;
        if (!keptPlans.moves(decision, plan[decision])) return STATE;
        for (int f = 0; f < rules.factNumber; f++) {
            if (rules.facts[f] != keptPlans.factThen(f) && staysWithout(f, decision)) return f;
        }
        return NONE;
    }

    // ---- the way, the clash

    public int way(int i) {
        if (!keptPlans.hasBase()) return STATE;
        route.find(plan, scale.movedBits(plan));
        return within(i, 0, route.length - 1) ? route.steps[i] : NONE;
    }

    public int broken(int i) {
        if (!keptPlans.hasBase()) return STATE;
        route.find(plan, scale.movedBits(plan));
        return within(i, 0, route.length - 1) ? route.brokenBehind[i] : NONE;
    }

    public int clash(int i) {
        if (decisions.number == 0) return STATE;
        search.asNow();
        conflict.begin(rules.number);
        search.seek(conflict);
        int least = conflict.leastSet();
        if (least == NONE) return NONE;
        return i == -1 ? Integer.bitCount(least) : bitAt(least, i);
    }

    // ---- what several of them need

    private static boolean within(int n, int least, int most) {
        return n >= least && n <= most;
    }

    private static int bitAt(int bits, int place) {
        int passed = 0;
        for (int bit = 0; bit < RULES; bit++) {
            if ((bits >> bit & 1) == 0) continue;
            if (passed == place) return bit;
            passed++;
        }
        return NONE;
    }

    private int brokenNow() {
        return rules.brokenIn(plan, decisions.number, rules.facts);
    }

    private int leastCost() {
        best.begin(false);
        search.seek(best);
        return best.found ? best.cost : NONE;
    }

    private boolean staysWithout(int fact, int decision) {
        search.asNow();
        search.turnBack(fact);
        best.begin(worthFirst);
        search.seek(best);
        return best.found && !keptPlans.moves(decision, best.values[decision]);
    }

    /** The decisions, and the limits of the persons who have them. */
    private static final class Decisions {
        int number = 0;
        final int[] lows = new int[DECISIONS];
        final int[] highs = new int[DECISIONS];
        final int[] persons = new int[DECISIONS];
        final int[] weights = new int[DECISIONS];
        final int[] pers = new int[DECISIONS];
        final int[] pins = new int[DECISIONS];
        final int[][] worths = new int[DECISIONS][VALUES];
        final int[] limits = new int[PERSONS];

        Decisions() {
            for (int p = 0; p < PERSONS; p++) limits[p] = DECISIONS;
        }

        int add(int low, int high, int person) {
            int d = number;
            lows[d] = low;
            highs[d] = high;
            persons[d] = person;
            weights[d] = 1;
            pins[d] = NONE;
            number++;
            return d;
        }

        boolean has(int d) {
            return d >= 0 && d < number;
        }

        boolean mayHave(int d, int v) {
            return v >= lows[d] && v <= highs[d];
        }

        boolean pinLets(int d, int v) {
            return pins[d] == NONE || pins[d] == v;
        }
    }

    /** The facts and the rules about them; some rules as bits: the lowest bit is rule 0. */
    private static final class Rules {
        int factNumber = 0;
        final int[] facts = new int[FACTS];
        int number = 0;
        private final int[] kinds = new int[RULES];
        private final int[] lefts = new int[RULES];
        private final int[] rights = new int[RULES];
        private final int[] factOf = new int[RULES];
        // which rules are decided with a decision, the last of theirs, and which count a value
        private final int[] decidedWith = new int[DECISIONS];
        private final int[] countingValue = new int[VALUES];

        int addFact(int v) {
            facts[factNumber] = v;
            factNumber++;
            return factNumber - 1;
        }

        boolean hasFact(int f) {
            return f >= 0 && f < factNumber;
        }

        int add(int kind, int a, int b, int fact) {
            int r = number;
            kinds[r] = kind;
            lefts[r] = a;
            rights[r] = b;
            factOf[r] = fact;
            if (kind == COUNTING) countingValue[b] |= 1 << r;
            else decidedWith[Math.max(a, b)] |= 1 << r;
            number++;
            return r;
        }

        boolean has(int r) {
            return r >= 0 && r < number;
        }

        /** All rules that a whole plan of n decisions breaks. */
        int brokenIn(int[] values, int n, int[] factsThen) {
            int broken = brokenByNone(factsThen);
            for (int k = 0; k < n; k++) broken |= brokenAt(values, k, factsThen);
            return broken;
        }

        /** A count below 0 can't be kept: such a rule is broken before any value is chosen. */
        int brokenByNone(int[] factsThen) {
            int broken = 0;
            for (int r = 0; r < number; r++) {
                if (kinds[r] == COUNTING && factsThen[factOf[r]] < 0) broken |= 1 << r;
            }
            return broken;
        }

        /**
         * The rules that value k breaks, the values before it being chosen and those behind it not
         * yet: counts only grow, so what is broken here stays broken.
         */
        int brokenAt(int[] values, int k, int[] factsThen) {
            int touched = decidedWith[k] | countingValue[values[k]];
            int broken = 0;
            for (int r = 0; r < number; r++) {
                if ((touched >> r & 1) == 0) continue;
                if (!isKept(r, values, k, factsThen[factOf[r]])) broken |= 1 << r;
            }
            return broken;
        }

        private boolean isKept(int r, int[] values, int k, int bound) {
            if (kinds[r] == COUNTING) return timesUpTo(k, values, rights[r]) <= bound;
            int x = values[lefts[r]];
            int y = values[rights[r]];
            switch (kinds[r]) {
                case 0: return x - y <= bound;
                case 1: return x + y <= bound;
                case 2: return x + y >= bound;
                case 3: return Math.abs(x - y) >= bound;
                default: return Math.abs(x - y) <= bound;
            }
        }

        private static int timesUpTo(int last, int[] values, int v) {
            int times = 0;
            for (int k = 0; k <= last; k++) {
                if (values[k] == v) times++;
            }
            return times;
        }
    }

    /** The kept plans with their facts, and which of them is the base. */
    private static final class Kept {
        int number = 0;
        int current = NONE;
        final int[][] plans = new int[KEPT][DECISIONS];
        private final int[][] facts = new int[KEPT][FACTS];

        int add(int[] plan, int[] factsNow) {
            System.arraycopy(plan, 0, plans[number], 0, DECISIONS);
            System.arraycopy(factsNow, 0, facts[number], 0, FACTS);
            current = number;
            number++;
            return current;
        }

        boolean has(int k) {
            return k >= 0 && k < number;
        }

        boolean hasBase() {
            return current != NONE;
        }

        int valueThen(int d) {
            return hasBase() ? plans[current][d] : NONE;
        }

        boolean moves(int d, int v) {
            return hasBase() && plans[current][d] != v;
        }

        int factThen(int f) {
            return hasBase() ? facts[current][f] : NONE;
        }
    }

    /** The plans before the latest runs, the oldest first; one too many pushes the oldest out. */
    private static final class Past {
        int number = 0;
        private final int[][] plans = new int[UNDOS][DECISIONS];
        private final int[] sizes = new int[UNDOS];

        void push(int[] plan, int size) {
            if (number == UNDOS) forgetOldest();
            System.arraycopy(plan, 0, plans[number], 0, DECISIONS);
            sizes[number] = size;
            number++;
        }

        /** Only as many values go back as there were then: later decisions keep theirs. */
        void pop(int[] plan) {
            if (number == 0) return;
            number--;
            System.arraycopy(plans[number], 0, plan, 0, sizes[number]);
        }

        private void forgetOldest() {
            for (int i = 1; i < UNDOS; i++) {
                System.arraycopy(plans[i], 0, plans[i - 1], 0, DECISIONS);
                sizes[i - 1] = sizes[i];
            }
            number = UNDOS - 1;
        }
    }

    /** What a plan costs and is worth, whom it moves, whether it is allowed. */
    private static final class Scale {
        private final Decisions decisions;
        private final Kept kept;

        Scale(Decisions decisions, Kept kept) {
            this.decisions = decisions;
            this.kept = kept;
        }

        int costAt(int d, int v) {
            if (!kept.moves(d, v)) return 0;
            int far = Math.abs(kept.valueThen(d) - v);
            return decisions.weights[d] + decisions.pers[d] * far;
        }

        int costOf(int[] values) {
            int cost = 0;
            for (int d = 0; d < decisions.number; d++) cost += costAt(d, values[d]);
            return cost;
        }

        int worthAt(int d, int v) {
            return decisions.worths[d][v];
        }

        int worthOf(int[] values) {
            int worth = 0;
            for (int d = 0; d < decisions.number; d++) worth += worthAt(d, values[d]);
            return worth;
        }

        int mostWorthAt(int d) {
            int most = 0;
            for (int v = decisions.lows[d]; v <= decisions.highs[d]; v++) {
                if (decisions.pinLets(d, v)) most = Math.max(most, worthAt(d, v));
            }
            return most;
        }

        int movedBits(int[] values) {
            int bits = 0;
            for (int d = 0; d < decisions.number; d++) {
                if (kept.moves(d, values[d])) bits |= 1 << d;
            }
            return bits;
        }

        boolean isAllowed(int[] values) {
            for (int d = 0; d < decisions.number; d++) {
                if (!decisions.pinLets(d, values[d])) return false;
            }
            for (int p = 0; p < PERSONS; p++) {
                if (movedOf(p, values) > decisions.limits[p]) return false;
            }
            return true;
        }

        private int movedOf(int person, int[] values) {
            int moved = 0;
            for (int d = 0; d < decisions.number; d++) {
                if (decisions.persons[d] == person && kept.moves(d, values[d])) moved++;
            }
            return moved;
        }
    }

    /** What is looked for among the allowed plans. */
    private abstract static class Goal {
        /**
         * Whether nothing that begins so can matter: it costs this or more, is worth at most this,
         * and breaks these rules or more.
         */
        abstract boolean isHopeless(int cost, int mostWorth, int broken);

        abstract void reach(int[] values, int cost, int worth, int broken);
    }

    /** The best plan that holds. */
    private static final class Best extends Goal {
        boolean found = false;
        int cost = 0;
        private int worthFound = 0;
        private boolean byWorth = false;
        final int[] values = new int[DECISIONS];

        void begin(boolean worthBeforeCost) {
            found = false;
            byWorth = worthBeforeCost;
        }

        /** Plans come by rising values, so of two alike the earlier one stays. */
        boolean isHopeless(int costSoFar, int mostWorth, int broken) {
            if (broken != 0) return true;
            if (!found) return false;
            if (byWorth) {
                return mostWorth < worthFound || mostWorth == worthFound && costSoFar >= cost;
            }
            return costSoFar > cost || costSoFar == cost && mostWorth <= worthFound;
        }

        void reach(int[] chosen, int costThere, int worthThere, int broken) {
            found = true;
            cost = costThere;
            worthFound = worthThere;
            System.arraycopy(chosen, 0, values, 0, DECISIONS);
        }
    }

    /** How many plans that hold cost so much at most. */
    private static final class Count extends Goal {
        int number = 0;
        private int mostCost = 0;

        void begin(int most) {
            number = 0;
            mostCost = most;
        }

        boolean isHopeless(int cost, int mostWorth, int broken) {
            return broken != 0 || cost > mostCost;
        }

        void reach(int[] values, int cost, int worth, int broken) {
            number++;
        }
    }

    /** The smallest set of rules that no allowed plan keeps. */
    private static final class Clash extends Goal {
        private int all = 0;
        // covered[s]: some allowed plan breaks none but rules of s
        private final boolean[] covered = new boolean[1 << RULES];

        void begin(int ruleNumber) {
            all = (1 << ruleNumber) - 1;
            for (int s = 0; s <= all; s++) covered[s] = false;
        }

        boolean isHopeless(int cost, int mostWorth, int broken) {
            return covered[broken & all];
        }

        void reach(int[] values, int cost, int worth, int broken) {
            int least = broken & all;
            for (int s = least; s <= all; s = (s + 1) | least) covered[s] = true;
        }

        /** The clash as bits, or NONE. */
        int leastSet() {
            int least = NONE;
            for (int s = 0; s <= all; s++) {
                if (!covered[all & ~s] && (least == NONE || isLess(s, least))) least = s;
            }
            return least;
        }

        /** Of two sets of one size that one comes first which has the lowest rule they differ in. */
        private static boolean isLess(int s, int t) {
            int sizes = Integer.compare(Integer.bitCount(s), Integer.bitCount(t));
            int differ = s ^ t;
            return sizes < 0 || sizes == 0 && (s & differ & -differ) != 0;
        }
    }

    /** Goes through all allowed plans by rising values, leaving out what the goal calls hopeless. */
    private static final class Search {
        private final Decisions decisions;
        private final Rules rules;
        private final Kept kept;
        private final Scale scale;
        private final int[] facts = new int[FACTS];
        private final int[] limits = new int[PERSONS];
        private int counting = 0;
        private final int[] moved = new int[PERSONS];
        private final int[] values = new int[DECISIONS];
        private final int[] worthBehind = new int[DECISIONS + 1];

        Search(Decisions decisions, Rules rules, Kept kept, Scale scale) {
            this.decisions = decisions;
            this.rules = rules;
            this.kept = kept;
            this.scale = scale;
        }

        void asNow() {
            System.arraycopy(rules.facts, 0, facts, 0, FACTS);
            System.arraycopy(decisions.limits, 0, limits, 0, PERSONS);
            counting = (1 << rules.number) - 1;
        }

        void leaveOut(int rule) {
            counting &= ~(1 << rule);
        }

        void hold(int person) {
            limits[person] = 0;
        }

        void turnBack(int fact) {
            facts[fact] = kept.factThen(fact);
        }

        void seek(Goal goal) {
            worthBehind[decisions.number] = 0;
            for (int d = decisions.number - 1; d >= 0; d--) {
                worthBehind[d] = worthBehind[d + 1] + scale.mostWorthAt(d);
            }
            for (int p = 0; p < PERSONS; p++) moved[p] = 0;
            choose(goal, 0, 0, 0, rules.brokenByNone(facts) & counting);
        }

        /** The depth is k, of which there are no more than decisions. */
        private void choose(Goal goal, int k, int cost, int worth, int broken) {
            if (k > decisions.number) return;
            if (goal.isHopeless(cost, worth + worthBehind[k], broken)) return;
            if (k == decisions.number) {
                goal.reach(values, cost, worth, broken);
                return;
            }
            int person = decisions.persons[k];
            for (int v = decisions.lows[k]; v <= decisions.highs[k]; v++) {
                int move = kept.moves(k, v) ? 1 : 0;
                if (!decisions.pinLets(k, v) || moved[person] + move > limits[person]) continue;
                values[k] = v;
                moved[person] += move;
                int brokenHere = rules.brokenAt(values, k, facts) & counting;
                choose(goal, k + 1, cost + scale.costAt(k, v), worth + scale.worthAt(k, v),
                    broken | brokenHere);
                moved[person] -= move;
            }
        }
    }

    /**
     * The way. What is broken behind a step depends only on which decisions have moved by then, so
     * a row over the sets of these (as bits) stands for all orders.
     */
    private static final class Route {
        private static final int FAR = 1000;

        int length = 0;
        final int[] steps = new int[DECISIONS];
        final int[] brokenBehind = new int[DECISIONS];
        private final Decisions decisions;
        private final Rules rules;
        private final Kept kept;
        private final int[] between = new int[DECISIONS];
        private final int[] brokenAfter = new int[1 << DECISIONS];
        private final int[] peakToCome = new int[1 << DECISIONS];
        private final int[] sumToCome = new int[1 << DECISIONS];

        Route(Decisions decisions, Rules rules, Kept kept) {
            this.decisions = decisions;
            this.rules = rules;
            this.kept = kept;
        }

        void find(int[] plan, int moved) {
            for (int s = 0; s <= moved; s++) {
                if ((s & ~moved) == 0) brokenAfter[s] = brokenWith(s, plan);
            }
            findPeaks(moved);
            findSums(moved);
            follow(moved);
        }

        private int brokenWith(int set, int[] plan) {
            for (int d = 0; d < decisions.number; d++) {
                between[d] = (set >> d & 1) == 1 ? plan[d] : kept.valueThen(d);
            }
            return Integer.bitCount(rules.brokenIn(between, decisions.number, rules.facts));
        }

        private void findPeaks(int moved) {
            peakToCome[moved] = 0;
            for (int s = moved - 1; s >= 0; s--) {
                if ((s & ~moved) != 0) continue;
                peakToCome[s] = FAR;
                for (int d = 0; d < DECISIONS; d++) {
                    int next = s | 1 << d;
                    if (next == s || (next & ~moved) != 0) continue;
                    int peak = Math.max(brokenAfter[next], peakToCome[next]);
                    peakToCome[s] = Math.min(peakToCome[s], peak);
                }
            }
        }

        /** Only steps that stay under the least peak count, or a lesser sum could hide a higher one. */
        private void findSums(int moved) {
            sumToCome[moved] = 0;
            for (int s = moved - 1; s >= 0; s--) {
                if ((s & ~moved) != 0) continue;
                sumToCome[s] = FAR;
                for (int d = 0; d < DECISIONS; d++) {
                    int next = s | 1 << d;
                    if (next == s || (next & ~moved) != 0) continue;
                    sumToCome[s] = Math.min(sumToCome[s], sumThrough(next));
                }
            }
        }

        private int sumThrough(int next) {
            if (brokenAfter[next] > peakToCome[0]) return FAR;
            return Math.min(FAR, brokenAfter[next] + sumToCome[next]);
        }

        private void follow(int moved) {
            length = Integer.bitCount(moved);
            int s = 0;
            for (int i = 0; i < length; i++) {
                int d = leastStep(s, moved);
                s |= 1 << d;
                steps[i] = d;
                brokenBehind[i] = brokenAfter[s];
            }
        }

        private int leastStep(int s, int moved) {
            for (int d = 0; d < DECISIONS; d++) {
                int next = s | 1 << d;
                if (next == s || (next & ~moved) != 0) continue;
                if (sumThrough(next) == sumToCome[s]) return d;
            }
            return 0;
        }
    }
}
