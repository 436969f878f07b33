import java.util.ArrayDeque;
import java.util.ArrayList;
import java.util.Arrays;
import java.util.Deque;
import java.util.List;

/**
 * The document read once more, as plainly as can be: a placement is found by going through the
 * hours, the best plan by trying every one. It answers the same texts as Calls.answer.
 */
final class Model {
    private long seed = 1;
    private final List<int[]> things = new ArrayList<>();          // life, bound, used, open
    private final List<Deque<Integer>> changes = new ArrayList<>();
    private final List<int[]> gaps = new ArrayList<>();            // from, to
    private final List<int[]> persons = new ArrayList<>();         // skill, from, to
    private final List<int[]> repairs = new ArrayList<>();         // thing, hours, skill, waiting
    private final int[] spares = new int[4];
    private int rest = 8;
    private int failing = 1000;
    private int[][] plan = null;                                   // hour, person, gap for each repair
    private int[][] trial;
    private int planCost;

    String answer(String call) {
        String[] w = call.split(" ");
        if (w[0].equals("seed")) {
            seed = Long.parseLong(w[1]);
            return "ok";
        }
        if (w[0].equals("permit")) return permit(Integer.parseInt(w[1]), w[2].equals("true"));
        int[] a = new int[4];
        for (int i = 1; i < w.length; i++) a[i - 1] = Integer.parseInt(w[i]);
        switch (w[0]) {
            case "thing": return thing(a[0], a[1]);
            case "use": return use(a[0], a[1]);
            case "told": return told(a[0], a[1]);
            case "left": return left(a[0], a[1]);
            case "history": return history(a[0], a[1]);
            case "gap": return gap(a[0], a[1]);
            case "person": return person(a[0], a[1], a[2]);
            case "repair": return repair(a[0], a[1], a[2], a[3]);
            case "rules": return rules(a[0], a[1]);
            case "plan": return makePlan();
            case "at": return at(a[0], a[1]);
            case "cost": return plan == null ? "turn" : "" + planCost;
            case "done": return plan == null ? "turn" : "" + doPlan();
            case "spare": return spare(a[0], a[1]);
            default: throw new AssertionError(call);
        }
    }

    private static boolean in(int v, int least, int most) {
        return least <= v && v <= most;
    }

    private boolean known(int thing) {
        return in(thing, 0, things.size() - 1);
    }

    private boolean barred(int thing) {
        int[] t = things.get(thing);
        return t[2] >= t[1] || t[3] == 0;
    }

    private void changed(int thing, int change) {
        changes.get(thing).addFirst(change);
        if (changes.get(thing).size() > 5) changes.get(thing).removeLast();
    }

    private String thing(int life, int bound) {
        if (!in(life, 1, 1000000) || !in(bound, 1, 1000000)) return "range";
        if (things.size() == 8) return "meaning";
        things.add(new int[] {life, bound, 0, 1});
        changes.add(new ArrayDeque<>());
        return "" + (things.size() - 1);
    }

    private String use(int thing, int units) {
        if (!known(thing)) return "index";
        if (barred(thing)) return "turn";
        if (!in(units, 1, 1000000)) return "range";
        things.get(thing)[2] += units;
        changed(thing, units);
        return "" + things.get(thing)[2];
    }

    private String told(int thing, int what) {
        if (!known(thing) || !in(what, 0, 2)) return "index";
        int[] t = things.get(thing);
        if (what == 0) return "" + t[2];
        if (what == 1) return barred(thing) ? "1" : "0";
        return "" + (t[2] > t[1] ? 0 : t[1] - t[2]);
    }

    private String left(int thing, int n) {
        if (!known(thing)) return "index";
        if (!in(n, 0, 1000)) return "range";
        long z = seed;
        for (int i = 0; i < 1001 * thing + n + 1; i++) z += 0x9E3779B97F4A7C15L;
        z = (z ^ (z >>> 30)) * 0xBF58476D1CE4E5B9L;
        z = (z ^ (z >>> 27)) * 0x94D049BB133111EBL;
        z = z ^ (z >>> 31);
        long r = (z & Long.MAX_VALUE) % 101;
        long drawn = things.get(thing)[0] * (50 + r) / 100;
        long used = things.get(thing)[2];
        return "" + (used > drawn ? 0 : drawn - used);
    }

    private String permit(int thing, boolean open) {
        if (!known(thing)) return "index";
        if ((things.get(thing)[3] == 1) == open) return "meaning";
        things.get(thing)[3] = open ? 1 : 0;
        changed(thing, open ? -3 : -2);
        return "ok";
    }

    private String history(int thing, int k) {
        if (!known(thing) || k < 0) return "index";
        int i = 0;
        for (int change : changes.get(thing)) {
            if (i == k) return "" + change;
            i++;
        }
        return "0";
    }

    private static boolean hours(int from, int to) {
        return in(from, 0, 168) && in(to, 0, 168) && to > from;
    }

    private String gap(int from, int to) {
        if (!hours(from, to)) return "range";
        if (gaps.size() == 6) return "meaning";
        gaps.add(new int[] {from, to});
        plan = null;
        return "" + gaps.size();
    }

    private String person(int skill, int from, int to) {
        if (!in(skill, 0, 3) || !hours(from, to)) return "range";
        if (persons.size() == 4) return "meaning";
        persons.add(new int[] {skill, from, to});
        plan = null;
        return "" + (persons.size() - 1);
    }

    private String repair(int thing, int hours, int skill, int waiting) {
        if (!known(thing)) return "index";
        if (!in(hours, 1, 24) || !in(skill, 0, 3) || !in(waiting, 0, 1000)) return "range";
        if (repairs.size() == 5) return "meaning";
        repairs.add(new int[] {thing, hours, skill, waiting});
        plan = null;
        return "" + (repairs.size() - 1);
    }

    private String rules(int newRest, int newFailing) {
        if (!in(newRest, 0, 24) || !in(newFailing, 0, 1000000)) return "range";
        rest = newRest;
        failing = newFailing;
        plan = null;
        return "ok";
    }

    private String makePlan() {
        plan = null;
        trial = new int[repairs.size()][];
        tryAll(0, 0, new int[4], new int[8]);
        return "" + Arrays.stream(plan).filter(p -> p[0] >= 0).count();
    }

    // Plans come in the document's order, so the first of the cheapest stays.
    private void tryAll(int i, int cost, int[] personFree, int[] thingFree) {
        if (i == repairs.size()) {
            if (plan == null || cost < planCost) {
                plan = trial.clone();
                planCost = cost;
            }
            return;
        }
        int[] r = repairs.get(i);
        for (int g = 0; g < gaps.size(); g++) {
            for (int p = 0; p < persons.size(); p++) {
                int hour = first(r, gaps.get(g), persons.get(p), Math.max(personFree[p], thingFree[r[0]]));
                if (hour < 0) continue;
                int[] persons2 = personFree.clone();
                int[] things2 = thingFree.clone();
                persons2[p] = hour + r[1] + rest;
                things2[r[0]] = hour + r[1];
                trial[i] = new int[] {hour, p, g};
                tryAll(i + 1, cost + r[3] * hour, persons2, things2);
            }
        }
        trial[i] = new int[] {-1, -1, -1};
        tryAll(i + 1, cost + r[3] * 168 + failing, personFree, thingFree);
    }

    private static int first(int[] r, int[] gap, int[] person, int free) {
        if (person[0] != r[2]) return -1;
        for (int hour = gap[0]; hour < gap[1]; hour++) {
            if (hour < person[1] || hour >= person[2] || hour < free) continue;
            int end = hour + r[1];
            return end <= gap[1] && end <= person[2] ? hour : -1;
        }
        return -1;
    }

    private String at(int repair, int what) {
        if (!in(repair, 0, repairs.size() - 1) || !in(what, 0, 2)) return "index";
        return plan == null ? "turn" : "" + plan[repair][what];
    }

    private int doPlan() {
        int count = 0;
        for (int i = 0; i < repairs.size(); i++) {
            int[] r = repairs.get(i);
            if (plan[i][0] < 0 || spares[r[2]] == 0) continue;
            spares[r[2]]--;
            things.get(r[0])[2] = 0;
            changed(r[0], -1);
            count++;
        }
        repairs.clear();
        plan = null;
        return count;
    }

    private String spare(int kind, int n) {
        if (!in(kind, 0, 3)) return "index";
        if (!in(n, 0, 100)) return "range";
        if (spares[kind] + n > 1000) return "meaning";
        spares[kind] += n;
        return "" + spares[kind];
    }
}
