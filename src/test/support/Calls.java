import java.util.Arrays;

/**
 * Runs calls written as text ("use 0 30") on an object and tells their answers as text: a
 * number, "ok" of a call without an answer, or the refusal's word (index, turn, range, meaning).
 */
final class Calls {
    private int wrong = 0;
    private int made = 0;

    /** Each row is "call = answer"; all rows run on one new object, which is handed back. */
    WearHours run(String name, String... rows) {
        WearHours x = new WearHours();
        more(x, name, rows);
        return x;
    }

    void more(WearHours x, String name, String... rows) {
        for (String row : rows) {
            String[] parts = row.split(" = ");
            due(name, parts[0], answer(x, parts[0]), parts[1]);
        }
    }

    /**
     * The row with each of the values in place of %, in the call and in its answer, and then the
     * rows behind it; each value has a new object, made ready by the rows ahead.
     */
    void each(String name, String[] ahead, String row, String[] behind, int... values) {
        for (int value : values) {
            WearHours x = run(name, ahead);
            more(x, name, row.replace("%", "" + value));
            more(x, name, behind);
        }
    }

    void due(String name, String call, String got, String want) {
        made++;
        if (!got.equals(want)) {
            wrong++;
            System.out.println(name + ": " + call + " answered " + got + ", due is " + want);
        }
    }

    int wrong() {
        return wrong;
    }

    void end() {
        System.out.println(made + " answers looked at, " + wrong + " wrong");
        if (wrong != 0) {
            System.exit(1);
        }
    }

    static String answer(WearHours x, String call) {
        String[] words = call.split(" ");
        String[] given = Arrays.copyOfRange(words, 1, words.length);
        try {
            return made(x, words[0], given);
        } catch (RuntimeException e) {
            return refusal(e);
        }
    }

    // The exact class is asked for: what the machine throws (ArrayIndexOutOfBoundsException) is no refusal.
    private static String refusal(RuntimeException e) {
        Class<?> c = e.getClass();
        if (c == IndexOutOfBoundsException.class) return "index";
        if (c == IllegalStateException.class) return "turn";
        if (c == IllegalArgumentException.class) return "range";
        if (c == UnsupportedOperationException.class) return "meaning";
        return "threw " + e;
    }

    private static String made(WearHours x, String name, String[] g) {
        switch (name) {
            case "seed": x.seed(Long.parseLong(g[0])); return "ok";
            case "permit": x.permit(number(g, 0), Boolean.parseBoolean(g[1])); return "ok";
            case "rules": x.rules(number(g, 0), number(g, 1)); return "ok";
            case "thing": return "" + x.thing(number(g, 0), number(g, 1));
            case "use": return "" + x.use(number(g, 0), number(g, 1));
            case "told": return "" + x.told(number(g, 0), number(g, 1));
            case "left": return "" + x.left(number(g, 0), number(g, 1));
            case "history": return "" + x.history(number(g, 0), number(g, 1));
            case "gap": return "" + x.gap(number(g, 0), number(g, 1));
            case "person": return "" + x.person(number(g, 0), number(g, 1), number(g, 2));
            case "repair": return "" + x.repair(number(g, 0), number(g, 1), number(g, 2), number(g, 3));
            case "plan": return "" + x.plan();
            case "at": return "" + x.at(number(g, 0), number(g, 1));
            case "cost": return "" + x.cost();
            case "done": return "" + x.done();
            case "spare": return "" + x.spare(number(g, 0), number(g, 1));
            default: throw new AssertionError("no such call: " + name);
        }
    }

    private static int number(String[] given, int i) {
        return Integer.parseInt(given[i]);
    }
}
