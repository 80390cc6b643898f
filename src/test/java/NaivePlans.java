import java.util.ArrayList;
import java.util.List;

/**
 * The document once more, word by word and without any haste: all plans are written down, then
 * sorted out. It knows no refusals; OracleTest asks it only what is not refused.
 */
final class NaivePlans {
    static final int NONE = -5;

    static final class Decision {
        int low, high, person, weight = 1, per = 0, pin = NONE, value;
        int[] worth = new int[6];
    }

    static final class Rule {
        int kind, a, b, fact;
    }

    static final class KeptPlan {
        int[] plan;
        List<Integer> facts;
    }

    final List<Decision> decisions = new ArrayList<>();
    final List<Rule> rules = new ArrayList<>();
    final List<KeptPlan> kept = new ArrayList<>();
    final List<int[]> runs = new ArrayList<>();
    List<Integer> facts = new ArrayList<>();
    int[] limits = {6, 6, 6, 6};
    int base = NONE;
    boolean worthFirst = false;

    int[] plan() {
        int[] plan = new int[decisions.size()];
        for (int d = 0; d < plan.length; d++) plan[d] = decisions.get(d).value;
        return plan;
    }

    boolean moved(int[] plan, int d) {
        return base != NONE && kept.get(base).plan[d] != plan[d];
    }

    int cost(int[] plan) {
        int cost = 0;
        for (int d = 0; d < plan.length; d++) {
            if (!moved(plan, d)) continue;
            Decision one = decisions.get(d);
            cost += one.weight + one.per * Math.abs(kept.get(base).plan[d] - plan[d]);
        }
        return cost;
    }

    int worth(int[] plan) {
        int worth = 0;
        for (int d = 0; d < plan.length; d++) worth += decisions.get(d).worth[plan[d]];
        return worth;
    }

    int movedBits(int[] plan) {
        int bits = 0;
        for (int d = 0; d < plan.length; d++) if (moved(plan, d)) bits += 1 << d;
        return bits;
    }

    boolean allowed(int[] plan) {
        int[] movedOf = new int[4];
        for (int d = 0; d < plan.length; d++) {
            Decision one = decisions.get(d);
            if (plan[d] < one.low || plan[d] > one.high) return false;
            if (one.pin != NONE && one.pin != plan[d]) return false;
            if (moved(plan, d)) movedOf[one.person]++;
        }
        for (int p = 0; p < 4; p++) if (movedOf[p] > limits[p]) return false;
        return true;
    }

    boolean keeps(int[] plan, Rule rule) {
        int bound = facts.get(rule.fact);
        if (rule.kind == 5) {
            int times = 0;
            for (int value : plan) if (value == rule.b) times++;
            return times <= bound;
        }
        int x = plan[rule.a], y = plan[rule.b];
        if (rule.kind == 0) return x - y <= bound;
        if (rule.kind == 1) return x + y <= bound;
        if (rule.kind == 2) return x + y >= bound;
        int apart = x > y ? x - y : y - x;
        return rule.kind == 3 ? apart >= bound : apart <= bound;
    }

    int brokenBits(int[] plan) {
        int bits = 0;
        for (int r = 0; r < rules.size(); r++) if (!keeps(plan, rules.get(r))) bits += 1 << r;
        return bits;
    }

    List<int[]> allowedPlans() {
        List<int[]> all = new ArrayList<>();
        int n = decisions.size();
        int many = 1;
        for (int d = 0; d < n; d++) many *= 6;
        for (int code = 0; code < many; code++) {
            int[] plan = new int[n];
            int rest = code;
            for (int d = n - 1; d >= 0; d--) {
                plan[d] = rest % 6;
                rest /= 6;
            }
            if (allowed(plan)) all.add(plan);
        }
        return all;
    }

    /** Those that hold; the rule that is left out may be -1. */
    List<int[]> holding(int leftOut) {
        List<int[]> some = new ArrayList<>();
        for (int[] plan : allowedPlans()) {
            int broken = brokenBits(plan);
            if (leftOut >= 0) broken &= ~(1 << leftOut);
            if (broken == 0) some.add(plan);
        }
        return some;
    }

    int[] best(List<int[]> plans) {
        int[] best = null;
        for (int[] plan : plans) if (best == null || better(plan, best)) best = plan;
        return best;
    }

    private boolean better(int[] p, int[] q) {
        int byCost = Integer.compare(cost(p), cost(q));
        int byWorth = Integer.compare(worth(q), worth(p));
        int one = worthFirst ? byWorth : byCost;
        int two = worthFirst ? byCost : byWorth;
        if (one != 0) return one < 0;
        if (two != 0) return two < 0;
        for (int d = 0; d < p.length; d++) if (p[d] != q[d]) return p[d] < q[d];
        return false;
    }

    int run() {
        int[] best = best(holding(-1));
        if (best == null) return NONE;
        runs.add(plan());
        if (runs.size() > 8) runs.remove(0);
        for (int d = 0; d < best.length; d++) decisions.get(d).value = best[d];
        return cost(best);
    }

    int undo() {
        int[] before = runs.remove(runs.size() - 1);
        for (int d = 0; d < before.length; d++) decisions.get(d).value = before[d];
        return runs.size();
    }

    int near(int n) {
        int many = 0;
        for (int[] plan : holding(-1)) if (cost(plan) <= n) many++;
        return many;
    }

    int least(int leftOut) {
        int least = NONE;
        for (int[] plan : holding(leftOut)) {
            if (least == NONE || cost(plan) < least) least = cost(plan);
        }
        return least;
    }

    int spare(int person) {
        int before = limits[person];
        limits[person] = 0;
        int least = least(-1);
        limits[person] = before;
        return least;
    }

    int why(int d) {
        List<Integer> now = facts;
        List<Integer> then = kept.get(base).facts;
        int found = NONE;
        for (int f = 0; f < now.size() && found == NONE; f++) {
            if (now.get(f).equals(then.get(f))) continue;
            facts = new ArrayList<>(now);
            facts.set(f, then.get(f));
            int[] best = best(holding(-1));
            if (best != null && best[d] == kept.get(base).plan[d]) found = f;
        }
        facts = now;
        return found;
    }

    /** The way as its decisions, each followed by how many rules are broken behind it. */
    int[][] way() {
        List<int[]> orders = new ArrayList<>();
        int moved = movedBits(plan());
        writeOrders(orders, new int[Integer.bitCount(moved)], 0, moved);
        int[][] least = null;
        for (int[] order : orders) {
            int[][] walked = walk(order);
            if (least == null || lesserWay(walked, least)) least = walked;
        }
        return least;
    }

    private void writeOrders(List<int[]> orders, int[] order, int place, int left) {
        if (place == order.length) {
            orders.add(order.clone());
            return;
        }
        for (int d = 0; d < 6; d++) {
            if ((left >> d & 1) == 0) continue;
            order[place] = d;
            writeOrders(orders, order, place + 1, left & ~(1 << d));
        }
    }

    private int[][] walk(int[] order) {
        int[] at = kept.get(base).plan.clone();
        int[][] walked = new int[order.length][2];
        for (int i = 0; i < order.length; i++) {
            at[order[i]] = decisions.get(order[i]).value;
            walked[i][0] = order[i];
            walked[i][1] = Integer.bitCount(brokenBits(at));
        }
        return walked;
    }

    private static boolean lesserWay(int[][] p, int[][] q) {
        int mostP = 0, mostQ = 0, sumP = 0, sumQ = 0;
        for (int[] step : p) {
            mostP = Math.max(mostP, step[1]);
            sumP += step[1];
        }
        for (int[] step : q) {
            mostQ = Math.max(mostQ, step[1]);
            sumQ += step[1];
        }
        if (mostP != mostQ) return mostP < mostQ;
        if (sumP != sumQ) return sumP < sumQ;
        for (int i = 0; i < p.length; i++) if (p[i][0] != q[i][0]) return p[i][0] < q[i][0];
        return false;
    }

    /** The clash by rising numbers; null if there is none. */
    List<Integer> clash() {
        boolean[] seen = new boolean[1 << rules.size()];
        for (int[] plan : allowedPlans()) seen[brokenBits(plan)] = true;
        List<Integer> least = null;
        for (int set = 0; set < 1 << rules.size(); set++) {
            boolean clashes = true;
            for (int broken = 0; broken < seen.length && clashes; broken++) {
                if (seen[broken] && (broken & set) == 0) clashes = false;
            }
            if (!clashes) continue;
            List<Integer> some = new ArrayList<>();
            for (int r = 0; r < rules.size(); r++) if ((set >> r & 1) == 1) some.add(r);
            if (least == null || lesserClash(some, least)) least = some;
        }
        return least;
    }

    private static boolean lesserClash(List<Integer> p, List<Integer> q) {
        if (p.size() != q.size()) return p.size() < q.size();
        for (int i = 0; i < p.size(); i++) {
            int order = Integer.compare(p.get(i), q.get(i));
            if (order != 0) return order < 0;
        }
        return false;
    }
}
