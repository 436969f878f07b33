import java.util.ArrayList;
import java.util.Arrays;
import java.util.List;

/**
 * Refusals in the document's order (index, turn, range, meaning), each with its own exception:
 * where two or more hold at once the first is due, and a refused call leaves everything as it was.
 */
public final class RefusalTest {
    private static final String[] NOTHING = {};
    private static final String[] FULL = full();
    private static final String[] TOUR = tour();
    private static final int[] NUMBERS = {Integer.MIN_VALUE, -1, 0, 7, 8, Integer.MAX_VALUE};
    private static final int[] FEW = {Integer.MIN_VALUE, -1, 0, 1, 2, 3, 4, 5, 6, Integer.MAX_VALUE};
    private static final int[] UNITS = {Integer.MIN_VALUE, -1, 0, 1, 999999, 1000000, 1000001, Integer.MAX_VALUE};
    private static final int[] DRAWS = {Integer.MIN_VALUE, -1, 0, 1, 999, 1000, 1001, Integer.MAX_VALUE};
    private static final int[] SKILLS = {Integer.MIN_VALUE, -1, 0, 3, 4, Integer.MAX_VALUE};
    private static final int[] WEEK_HOURS = {Integer.MIN_VALUE, -1, 0, 1, 84, 167, 168, 169, Integer.MAX_VALUE};
    private static final int[] REPAIR_HOURS = {Integer.MIN_VALUE, -1, 0, 1, 24, 25, Integer.MAX_VALUE};
    private static final int[] WAITING = {Integer.MIN_VALUE, -1, 0, 1000, 1001, Integer.MAX_VALUE};
    private static final int[] SPARES = {Integer.MIN_VALUE, -1, 0, 1, 99, 100, 101, Integer.MAX_VALUE};

    private static final Calls calls = new Calls();

    public static void main(String[] args) {
        indexFirst();
        turnAheadOfRange();
        rangeAheadOfMeaning();
        meaning();
        for (String[] state : states()) {
            edgesIn(state);
        }
        calls.end();
    }

    /**
     * All that there may be: 8 things, 6 gaps, 4 persons, 5 repairs, 1,000 spares of kind 0.
     * Thing 7 is worn to its bound, thing 6 is closed, and there is no plan.
     */
    private static String[] full() {
        List<String> rows = new ArrayList<>();
        for (int i = 0; i < 8; i++) rows.add("thing 50 50 = " + i);
        for (int i = 0; i < 6; i++) rows.add("gap " + 25 * i + " " + (25 * i + 20) + " = " + (i + 1));
        for (int i = 0; i < 4; i++) rows.add("person " + i + " " + 3 * i + " 160 = " + i);
        for (int i = 0; i < 5; i++) rows.add("repair " + (7 - i) + " " + (4 + i) + " " + i % 4 + " " + (5 + i) + " = " + i);
        for (int i = 1; i <= 10; i++) rows.add("spare 0 100 = " + 100 * i);
        rows.add("use 7 50 = 50");
        rows.add("use 0 20 = 20");
        rows.add("permit 6 false = ok");
        return rows.toArray(new String[0]);
    }

    private static String[] and(String[] rows, String... more) {
        List<String> all = new ArrayList<>(List.of(rows));
        all.addAll(List.of(more));
        return all.toArray(new String[0]);
    }

    private static void due(String name, String[] ahead, String... rows) {
        for (String row : rows) {
            calls.more(calls.run(name, ahead), name, row);
        }
    }

    private static void indexFirst() {
        due("index ahead of range, none there", NOTHING, "use 0 0 = index", "left 0 -1 = index", "left 0 1001 = index",
                "repair 0 0 0 0 = index", "repair 0 1 4 0 = index", "repair 0 1 0 -1 = index", "told 0 3 = index",
                "history 0 -1 = index");
        due("index ahead of range, all there", FULL, "use 8 0 = index", "use -1 1000001 = index", "left 8 -1 = index",
                "left -1 1001 = index", "told 8 3 = index", "told 7 3 = index", "history 8 -1 = index", "history 7 -1 = index",
                "spare 4 101 = index", "spare -1 -1 = index");
        due("index ahead of turn, no plan", FULL, "at 5 0 = index", "at -1 0 = index", "at 0 3 = index", "at 0 -1 = index",
                "at 5 3 = index");
        due("index ahead of turn, nothing there", NOTHING, "at 0 0 = index", "at 0 3 = index", "at -1 -1 = index");
        due("index ahead of turn and range, all barred", new String[] {"thing 5 5 = 0", "permit 0 false = ok"},
                "use 1 1 = index", "use 1 0 = index", "use -1 0 = index");
        due("index ahead of meaning", FULL, "repair 8 1 0 0 = index", "repair -1 1 0 0 = index", "permit 8 true = index",
                "permit 8 false = index", "permit -1 true = index");
        due("index ahead of range and meaning", FULL, "repair 8 0 0 0 = index", "repair -1 25 4 1001 = index",
                "repair 8 1 -1 0 = index", "repair 8 1 0 1001 = index");
    }

    private static void turnAheadOfRange() {
        String[] worn = {"thing 5 5 = 0", "use 0 5 = 5"};
        String[] over = {"thing 5 5 = 0", "use 0 6 = 6"};
        String[] closed = {"thing 5 5 = 0", "permit 0 false = ok"};
        for (String[] barred : new String[][] {worn, over, closed, and(worn, "permit 0 false = ok")}) {
            due("turn ahead of range", barred, "use 0 0 = turn", "use 0 -1 = turn", "use 0 1000001 = turn", "use 0 1 = turn",
                    "use 0 -2147483648 = turn");
        }
        due("turn: there is no plan", FULL, "at 0 0 = turn", "at 4 2 = turn", "cost = turn", "done = turn");
        due("turn: there is no plan yet, nor anything else", NOTHING, "cost = turn", "done = turn");
    }

    private static void rangeAheadOfMeaning() {
        due("range ahead of meaning", FULL, "thing 0 1 = range", "thing 1 0 = range", "thing 1000001 1 = range",
                "thing 1 1000001 = range", "gap -1 5 = range", "gap 0 169 = range", "gap 5 5 = range", "gap 5 4 = range",
                "person -1 0 1 = range", "person 4 0 1 = range", "person 0 -1 5 = range", "person 0 0 169 = range",
                "person 0 5 5 = range", "person 0 5 4 = range", "repair 0 0 0 0 = range", "repair 0 25 0 0 = range",
                "repair 0 1 -1 0 = range", "repair 0 1 4 0 = range", "repair 0 1 0 -1 = range", "repair 0 1 0 1001 = range",
                "spare 0 101 = range", "spare 0 2147483647 = range", "spare 0 -1 = range", "spare 0 -2147483648 = range");
    }

    private static void meaning() {
        due("meaning: no room", FULL, "thing 1 1 = meaning", "gap 0 1 = meaning", "person 0 0 1 = meaning",
                "repair 0 1 0 0 = meaning", "spare 0 1 = meaning", "spare 0 100 = meaning");
        due("meaning: what is so already", FULL, "permit 6 false = meaning", "permit 0 true = meaning",
                "permit 7 true = meaning");
        due("room for the last one", FULL, "spare 0 0 = 1000", "permit 6 true = ok", "permit 7 false = ok");
    }

    private static String[][] states() {
        String[] half = {"thing 9 1000000 = 0", "gap 3 30 = 1", "person 0 0 168 = 0", "repair 0 3 0 2 = 0", "spare 0 1 = 1",
                "plan = 1"};
        String[] done = and(half, "use 0 4 = 4", "done = 1");
        return new String[][] {NOTHING, half, done, FULL, and(FULL, "plan = 5")};
    }

    /** Each call with all ends of all its arguments. */
    private static List<String> edgeCalls() {
        List<String> all = new ArrayList<>(List.of("plan", "cost", "done", "seed 9223372036854775807",
                "seed -9223372036854775808"));
        cross(all, "thing", UNITS, UNITS);
        cross(all, "use", NUMBERS, UNITS);
        cross(all, "told", NUMBERS, FEW);
        cross(all, "left", NUMBERS, DRAWS);
        cross(all, "history", NUMBERS, FEW);
        cross(all, "gap", WEEK_HOURS, WEEK_HOURS);
        cross(all, "person", SKILLS, WEEK_HOURS, WEEK_HOURS);
        cross(all, "repair", NUMBERS, REPAIR_HOURS, SKILLS, WAITING);
        cross(all, "rules", REPAIR_HOURS, UNITS);
        cross(all, "at", FEW, FEW);
        cross(all, "spare", SKILLS, SPARES);
        for (int number : NUMBERS) {
            all.add("permit " + number + " true");
            all.add("permit " + number + " false");
        }
        return all;
    }

    private static void cross(List<String> all, String call, int[]... choices) {
        if (choices.length == 0) {
            all.add(call);
            return;
        }
        int[][] rest = Arrays.copyOfRange(choices, 1, choices.length);
        for (int value : choices[0]) {
            cross(all, call + " " + value, rest);
        }
    }

    private static void edgesIn(String[] state) {
        Model model = null;
        for (String call : edgeCalls()) {
            if (model == null) {
                model = new Model();
                for (String row : state) model.answer(before(row));
            }
            String want = model.answer(call);
            String name = "behind " + state.length + " calls, " + call;
            WearHours x = objectIn(state);
            calls.due(name, call, Calls.answer(x, call), want);
            if (isRefusal(want)) {
                unchanged(name, x, objectIn(state));
            } else {
                // Only a call that was not refused may have changed the model.
                model = null;
            }
        }
    }

    private static boolean isRefusal(String answer) {
        return answer.equals("index") || answer.equals("turn") || answer.equals("range") || answer.equals("meaning");
    }

    private static WearHours objectIn(String[] state) {
        WearHours x = new WearHours();
        for (String row : state) Calls.answer(x, before(row));
        return x;
    }

    private static String before(String row) {
        return row.split(" = ")[0];
    }

    /** The twin had every call but the refused one; nothing that can be asked may tell them apart. */
    private static void unchanged(String name, WearHours x, WearHours twin) {
        for (String call : TOUR) {
            calls.due(name + " was refused", call, Calls.answer(x, call), Calls.answer(twin, call));
        }
    }

    private static String[] tour() {
        List<String> all = new ArrayList<>();
        look(all);
        all.addAll(List.of("cost", "at 0 0", "at 4 2", "plan", "cost"));
        for (int i = 0; i < 15; i++) all.add("at " + i / 3 + " " + i % 3);
        all.addAll(List.of("repair 0 2 0 7", "repair 0 2 0 7", "rules 3 500", "plan", "cost", "done"));
        look(all);
        all.addAll(List.of("thing 50 50", "gap 160 168", "person 0 0 168", "use 0 1", "repair 0 1 0 9", "plan", "at 0 0",
                "cost"));
        return all.toArray(new String[0]);
    }

    private static void look(List<String> all) {
        for (int i = 0; i < 8; i++) {
            if (i == 0 || i > 5) {
                for (int what = 0; what < 3; what++) all.add("told " + i + " " + what);
                for (int k = 0; k < 3; k++) all.add("history " + i + " " + k);
            }
        }
        all.addAll(List.of("left 0 0", "left 7 1000", "spare 0 0", "spare 1 0", "spare 2 0", "spare 3 0"));
    }
}
