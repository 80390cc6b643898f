import java.util.ArrayList;
import java.util.List;

/**
 * All that can be asked of an object, in one fixed order: two objects in one state answer alike, and
 * any difference of their states shows. Asking changes the object, so it is of no use behind it.
 */
final class Probe {
    private final NearPlans x;
    private final List<String> answers = new ArrayList<>();

    private Probe(NearPlans x) {
        this.x = x;
    }

    static List<String> of(NearPlans x) {
        Probe probe = new Probe(x);
        probe.asks();
        probe.bases();
        probe.values();
        probe.settings();
        probe.runs();
        probe.numbers();
        return probe.answers;
    }

    private void add(String call, int answer) {
        answers.add(call + " = " + answer);
    }

    private void asks() {
        for (int i = 0; i < 8; i++) add("told(" + i + ")", x.told(i));
        for (int d = 0; d < 6; d++) add("value(" + d + ")", x.value(d));
        int[] costs = {0, 7, 2000};
        for (int n : costs) add("near(" + n + ")", x.near(n));
        add("least()", x.least());
        for (int r = 0; r < 12; r++) add("without(" + r + ")", x.without(r));
        for (int p = 0; p < 4; p++) add("spare(" + p + ")", x.spare(p));
        for (int i = -1; i < 4; i++) add("clash(" + i + ")", x.clash(i));
        for (int i = 0; i < 6; i++) {
            add("way(" + i + ")", x.way(i));
            add("broken(" + i + ")", x.broken(i));
        }
    }

    private void bases() {
        for (int k = 0; k < 3; k++) {
            for (int d = 0; d < 6; d++) add("old(" + k + ", " + d + ")", x.old(k, d));
            add("base(" + k + ")", x.base(k));
            for (int d = 0; d < 6; d++) add("why(" + d + ")", x.why(d));
        }
    }

    /** Which values each may have, what it costs there, which rules it breaks, whether it is pinned. */
    private void values() {
        for (int d = 0; d < 6; d++) {
            int before = x.value(d);
            for (int v = 0; v < 6; v++) {
                int was = x.put(d, v);
                add("put(" + d + ", " + v + ")", was);
                if (was < 0) continue;
                add("told(0)", x.told(0));
                add("told(5)", x.told(5));
                add("told(6)", x.told(6));
            }
            x.put(d, before);
        }
    }

    private void settings() {
        add("first(0)", x.first(0));
        for (int p = 0; p < 4; p++) add("limit(" + p + ", 6)", x.limit(p, 6));
        for (int f = 0; f < 6; f++) add("change(" + f + ", 20)", x.change(f, 20));
        for (int d = 0; d < 6; d++) {
            for (int v = 0; v < 6; v++) add("worth(" + d + ", " + v + ", 0)", x.worth(d, v, 0));
        }
    }

    private void runs() {
        int left = 9;
        for (int i = 0; i < 9 && left > 0; i++) {
            left = x.undo();
            add("undo()", left);
            for (int d = 0; d < 6; d++) add("value(" + d + ")", x.value(d));
        }
    }

    private void numbers() {
        add("decision(0, 0, 0)", x.decision(0, 0, 0));
        add("fact(0)", x.fact(0));
        add("rule(5, 0, 0, 0)", x.rule(5, 0, 0, 0));
        add("keep()", x.keep());
    }
}
