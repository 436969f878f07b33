/**
 * The document's limits, sentence by sentence of its terms: the last value that is allowed and
 * the first that is not, on each side; none yet, and as many as there may be. What a call that
 * is refused leaves is looked at behind it.
 */
public final class BoundsTest {
    private static final int LEAST = Integer.MIN_VALUE;
    private static final int MOST = Integer.MAX_VALUE;
    private static final String[] NOTHING = {};
    private static final String[] ONE_THING = {"thing 7 1000000 = 0"};
    // A repair of thing 0 or 1, by whichever skill and of as many hours as there are, begins at hour 0 or waits its turn.
    private static final String[] WEEK = {"thing 5 5 = 0", "thing 5 5 = 1", "gap 0 168 = 1", "person 0 0 168 = 0"};

    private static final Calls calls = new Calls();

    public static void main(String[] args) {
        things();
        livesAndBounds();
        barred();
        drawnLives();
        hoursOfTheWeek();
        gaps();
        persons();
        skills();
        repairs();
        repairHoursAndWaiting();
        restAndFailing();
        spares();
        changes();
        calls512();
        calls.end();
    }

    /** Refused one step outside and far outside, allowed at both ends and one step inside. */
    private static void range(String name, String[] ahead, String call, String answer, int least, int most, String... behind) {
        calls.each(name, ahead, call + " = " + answer, NOTHING, least, least + 1, most - 1, most);
        calls.each(name, ahead, call + " = range", behind, LEAST, least - 1, most + 1, MOST);
    }

    private static void index(String name, String[] ahead, String call, int count, String... behind) {
        calls.each(name, ahead, call + " = index", behind, LEAST, -1, count, MOST);
    }

    private static void things() {
        String name = "THINGS 0, 1, .. (at most 8)";
        WearHours x = new WearHours();
        for (int i = 0; i < 8; i++) {
            calls.more(x, name, "told " + i + " 0 = index", "thing 5 " + (i + 1) + " = " + i, "told " + i + " 2 = " + (i + 1));
        }
        calls.more(x, name, "thing 5 9 = meaning", "thing 5 9 = meaning", "told 8 0 = index", "told -1 0 = index");
        for (int i = 0; i < 8; i++) {
            calls.more(x, name, "told " + i + " 0 = 0", "told " + i + " 1 = 0", "told " + i + " 2 = " + (i + 1),
                    "use " + i + " 1 = 1", "permit " + i + " false = ok", "history " + i + " 1 = 1", "left " + i + " 0 = "
                    + new int[] {2, 3, 1, 3, 4, 1, 2, 3}[i]);
        }
        for (int count = 0; count <= 8; count++) {
            String[] ahead = new String[count];
            for (int i = 0; i < count; i++) ahead[i] = "thing 5 5 = " + i;
            index(name, ahead, "told % 0", count);
            index(name, ahead, "told % 1", count);
            index(name, ahead, "told % 2", count);
            index(name, ahead, "use % 1", count);
            index(name, ahead, "left % 0", count);
            index(name, ahead, "permit % false", count);
            index(name, ahead, "permit % true", count);
            index(name, ahead, "history % 0", count);
            index(name, ahead, "repair % 1 0 0", count);
        }
    }

    private static void livesAndBounds() {
        range("a LIFE (1 .. 1,000,000 units of use)", NOTHING, "thing % 5", "0", 1, 1000000, "told 0 0 = index", "thing 5 5 = 0");
        range("a BOUND (1 .. 1,000,000)", NOTHING, "thing 5 %", "0", 1, 1000000, "told 0 0 = index", "thing 5 5 = 0");
        calls.each("a BOUND (1 .. 1,000,000)", NOTHING, "thing 5 % = 0", new String[] {"told 0 1 = 0"}, 1, 2, 999999, 1000000);
        calls.run("USED (0 at first)", "thing 1 1 = 0", "told 0 0 = 0", "history 0 0 = 0", "use 0 1 = 1", "thing 1 1 = 1",
                "told 1 0 = 0", "history 1 0 = 0");
        range("units (1 .. 1,000,000)", ONE_THING, "use 0 %", "%", 1, 1000000, "told 0 0 = 0", "told 0 2 = 1000000",
                "history 0 0 = 0");
    }

    private static void barred() {
        String name = "used as much as its bound, or more";
        calls.run(name + ": bound 1", "thing 5 1 = 0", "told 0 1 = 0", "told 0 2 = 1", "use 0 1 = 1", "told 0 1 = 1",
                "told 0 2 = 0", "use 0 1 = turn", "told 0 0 = 1", "history 0 1 = 0");
        calls.run(name + ": one below", "thing 5 1000000 = 0", "use 0 999999 = 999999", "told 0 1 = 0", "told 0 2 = 1",
                "use 0 1 = 1000000", "told 0 1 = 1", "told 0 2 = 0", "use 0 1 = turn");
        calls.run(name + ": just so", "thing 5 1000000 = 0", "use 0 1000000 = 1000000", "told 0 1 = 1", "told 0 2 = 0",
                "use 0 1 = turn", "told 0 0 = 1000000");
        calls.run(name + ": one above", "thing 5 9 = 0", "use 0 8 = 8", "use 0 2 = 10", "told 0 1 = 1", "told 0 2 = 0",
                "use 0 1 = turn");
        calls.run(name + ": as far above as there may be", "thing 1000000 1000000 = 0", "use 0 999999 = 999999",
                "use 0 1000000 = 1999999", "told 0 0 = 1999999", "told 0 1 = 1", "told 0 2 = 0", "left 0 53 = 0",
                "use 0 1000000 = turn", "told 0 0 = 1999999", "history 0 0 = 1000000", "history 0 1 = 999999", "history 0 2 = 0");
        calls.run("its PERMIT is closed (open at first)", "thing 5 9 = 0", "permit 0 true = meaning", "told 0 1 = 0",
                "permit 0 false = ok", "told 0 1 = 1", "told 0 0 = 0", "told 0 2 = 9", "use 0 1 = turn", "told 0 0 = 0",
                "permit 0 true = ok", "use 0 1 = 1");
        calls.run("barred by both", "thing 5 9 = 0", "use 0 9 = 9", "permit 0 false = ok", "told 0 1 = 1", "use 0 1 = turn",
                "permit 0 true = ok", "told 0 1 = 1", "use 0 1 = turn", "permit 0 true = meaning");
        calls.run("USING it adds units, once", "thing 5 9 = 0", "thing 5 9 = 1", "use 0 3 = 3", "told 0 0 = 3", "told 1 0 = 0",
                "use 0 3 = 6", "told 0 2 = 3", "history 0 0 = 3", "history 0 1 = 3", "history 0 2 = 0");
        String mended = "a repair unbars what the bound barred";
        WearHours x = calls.run(mended, WEEK);
        calls.more(x, mended, "use 0 5 = 5", "spare 0 1 = 1", "repair 0 1 0 0 = 0", "told 0 1 = 1", "plan = 1", "told 0 1 = 1",
                "done = 1", "told 0 1 = 0", "told 0 2 = 5", "use 0 4 = 4", "told 0 1 = 0", "use 0 1 = 5", "told 0 1 = 1");
    }

    private static void drawnLives() {
        String name = "DRAWN LIFE by number n (0 .. 1,000)";
        calls.each(name, ONE_THING, "left 0 % = range", new String[] {"left 0 0 = 5"}, LEAST, -1, 1001, MOST);
        calls.run(name, "thing 100 1 = 0", "left 0 0 = 76", "left 0 1 = 96", "left 0 999 = 72", "left 0 1000 = 121");
        calls.run("0 when that is more", "thing 100 1000 = 0", "use 0 75 = 75", "left 0 0 = 1", "use 0 1 = 76", "left 0 0 = 0",
                "use 0 1 = 77", "left 0 0 = 0", "left 0 1 = 19", "use 0 1000000 = 1000077", "left 0 0 = 0", "left 0 1 = 0");
        calls.run("the least and the greatest life drawn", "thing 1000000 1000000 = 0", "left 0 19 = 500000",
                "left 0 53 = 1500000", "use 0 499999 = 499999", "left 0 19 = 1", "left 0 53 = 1000001", "use 0 1 = 500000",
                "left 0 19 = 0", "left 0 53 = 1000000", "use 0 999999 = 1499999", "left 0 53 = 1");
        calls.run("a drawn life has no bound", "thing 100 1 = 0", "use 0 1 = 1", "left 0 0 = 75", "permit 0 false = ok",
                "left 0 0 = 75");
    }

    private static void hoursOfTheWeek() {
        String name = "HOURS 0 .. 167";
        calls.run(name + ": the first", "thing 5 5 = 0", "gap 0 1 = 1", "person 0 0 1 = 0", "repair 0 1 0 9 = 0", "plan = 1",
                "at 0 0 = 0", "at 0 1 = 0", "at 0 2 = 0", "cost = 0");
        calls.run(name + ": the last", "thing 5 5 = 0", "gap 167 168 = 1", "person 0 167 168 = 0", "repair 0 1 0 9 = 0",
                "plan = 1", "at 0 0 = 167", "cost = 1503");
        calls.run(name + ": none behind the last", "thing 5 5 = 0", "gap 167 168 = 1", "person 0 167 168 = 0",
                "repair 0 2 0 9 = 0", "plan = 0", "at 0 0 = -1", "cost = 2512");
        calls.run(name + ": up to the last", "thing 5 5 = 0", "gap 144 168 = 1", "person 0 144 168 = 0", "repair 0 24 0 1 = 0",
                "plan = 1", "at 0 0 = 144", "cost = 144");
        calls.run(name + ": one too many", "thing 5 5 = 0", "gap 145 168 = 1", "person 0 144 168 = 0", "repair 0 24 0 1 = 0",
                "plan = 0", "cost = 1168");
        calls.run("the week has no rest behind it", "thing 5 5 = 0", "thing 5 5 = 1", "gap 0 168 = 1", "person 0 143 168 = 0",
                "rules 24 1000 = ok", "repair 0 24 0 1 = 0", "repair 1 1 0 0 = 1", "plan = 1", "at 0 0 = 143", "at 1 0 = -1");
    }

    private static void gaps() {
        String name = "GAPS of production, at most 6";
        WearHours x = calls.run(name, "thing 5 5 = 0", "person 0 0 168 = 0", "repair 0 2 0 1 = 0", "plan = 0", "at 0 2 = -1");
        for (int i = 1; i <= 6; i++) {
            // The later a gap is told, the earlier it is, so that each one must have been kept.
            calls.more(x, name, "gap " + (140 - 20 * i) + " " + (150 - 20 * i) + " = " + i, "cost = turn", "plan = 1",
                    "at 0 2 = " + (i - 1), "at 0 0 = " + (140 - 20 * i));
        }
        calls.more(x, name, "gap 0 5 = meaning", "gap 0 5 = meaning", "at 0 2 = 5", "cost = 20", "rules 8 1000 = ok",
                "plan = 1", "at 0 2 = 5");
        range("hours (0 .. 168): from", NOTHING, "gap % 168", "1", 0, 167, "gap 0 1 = 1");
        range("hours (0 .. 168): to", NOTHING, "gap 0 %", "1", 1, 168, "gap 0 1 = 1");
        calls.run("the second not behind the first", "gap 5 4 = range", "gap 5 5 = range", "gap 5 6 = 1", "gap 0 0 = range",
                "gap 0 1 = 2", "gap 167 167 = range", "gap 167 168 = 3", "gap 168 167 = range", "gap 168 168 = range",
                "gap 168 169 = range", "gap -1 0 = range", "gap -1 1 = range", "gap 0 -1 = range", "gap 168 0 = range",
                "gap -2147483648 -2147483647 = range", "gap 2147483646 2147483647 = range", "gap 0 1 = 4");
        calls.run("to another one (itself not)", "thing 5 5 = 0", "person 0 0 168 = 0", "gap 5 8 = 1", "repair 0 3 0 1 = 0",
                "plan = 1", "at 0 0 = 5", "plan = 1", "done = 0", "repair 0 4 0 1 = 0", "plan = 0");
        calls.run("the gap lasts for all of its hours", "thing 5 5 = 0", "person 0 0 168 = 0", "gap 0 4 = 1", "gap 4 8 = 2",
                "repair 0 5 0 1 = 0", "plan = 0", "gap 3 8 = 3", "plan = 1", "at 0 0 = 3", "at 0 2 = 2");
    }

    private static void persons() {
        String name = "PERSONS 0, 1, .. (at most 4)";
        WearHours x = calls.run(name, "thing 5 5 = 0", "gap 0 168 = 1", "repair 0 2 0 1 = 0", "plan = 0", "at 0 1 = -1");
        for (int i = 0; i < 4; i++) {
            calls.more(x, name, "person 0 " + (90 - 20 * i) + " 168 = " + i, "cost = turn", "plan = 1", "at 0 1 = " + i,
                    "at 0 0 = " + (90 - 20 * i));
        }
        calls.more(x, name, "person 0 0 168 = meaning", "person 3 0 168 = meaning", "at 0 1 = 3", "cost = 30",
                "rules 8 1000 = ok", "plan = 1", "at 0 1 = 3");
        range("hours likewise: from", NOTHING, "person 0 % 168", "0", 0, 167, "person 0 0 1 = 0");
        range("hours likewise: to", NOTHING, "person 0 0 %", "0", 1, 168, "person 0 0 1 = 0");
        calls.run("hours likewise, the second not behind the first", "person 0 5 4 = range", "person 0 5 5 = range",
                "person 0 5 6 = 0", "person 0 0 0 = range", "person 0 167 168 = 1", "person 0 168 168 = range",
                "person 0 168 169 = range", "person 0 168 0 = range", "person 0 -1 0 = range", "person 0 0 -1 = range",
                "person 0 0 1 = 2");
        calls.run("the person is there for all of its hours", "thing 5 5 = 0", "gap 0 168 = 1", "person 0 5 8 = 0",
                "repair 0 3 0 1 = 0", "plan = 1", "at 0 0 = 5", "done = 0", "repair 0 4 0 1 = 0", "plan = 0",
                "person 0 8 12 = 1", "plan = 1", "at 0 1 = 1");
        calls.run("the person comes when the gap ends", "thing 5 5 = 0", "gap 5 10 = 1", "person 0 10 20 = 0",
                "repair 0 1 0 1 = 0", "plan = 0", "person 0 9 20 = 1", "plan = 1", "at 0 0 = 9", "at 0 1 = 1");
        calls.run("the person goes when the gap begins", "thing 5 5 = 0", "gap 5 10 = 1", "person 0 0 5 = 0",
                "repair 0 1 0 1 = 0", "plan = 0", "person 0 0 6 = 1", "plan = 1", "at 0 0 = 5", "at 0 1 = 1");
    }

    private static void skills() {
        range("a SKILL (0 .. 3) of a person", NOTHING, "person % 0 1", "0", 0, 3, "person 0 0 1 = 0");
        range("a skill of a repair", ONE_THING, "repair 0 1 % 0", "0", 0, 3, "at 0 0 = index", "repair 0 1 0 0 = 0");
        for (int has = 0; has < 4; has++) {
            for (int needs = 0; needs < 4; needs++) {
                String placed = has == needs ? "1" : "0";
                calls.run("a person (of its skill)", "thing 5 5 = 0", "gap 0 9 = 1", "person " + has + " 0 9 = 0",
                        "repair 0 1 " + needs + " 0 = 0", "spare " + needs + " 1 = 1", "plan = " + placed,
                        "at 0 1 = " + (has == needs ? 0 : -1), "done = " + placed,
                        "spare " + needs + " 0 = " + (has == needs ? 0 : 1));
            }
        }
    }

    private static void repairs() {
        String name = "REPAIRS 0, 1, .. (at most 5)";
        WearHours x = calls.run(name, WEEK);
        calls.more(x, name, "rules 0 1000 = ok", "plan = 0", "at 0 0 = index");
        for (int i = 0; i < 5; i++) {
            calls.more(x, name, "at " + i + " 0 = index", "repair " + i % 2 + " 1 0 1 = " + i, "at " + i + " 0 = turn",
                    "cost = turn", "plan = " + (i + 1), "at " + i + " 0 = " + i, "at " + (i + 1) + " 0 = index");
        }
        calls.more(x, name, "repair 0 1 0 1 = meaning", "repair 1 1 0 1 = meaning", "at 5 0 = index", "at 4 0 = 4", "cost = 10",
                "done = 0", "at 0 0 = index", "repair 1 1 0 1 = 0");
        calls.each("no such repair", WEEK, "at % 0 = index", NOTHING, LEAST, -1, 0, 1, MOST);
        String[] planned = {"thing 5 5 = 0", "repair 0 1 0 0 = 0", "plan = 0"};
        calls.each("no such repair", planned, "at % 0 = index", new String[] {"at 0 0 = -1"}, LEAST, -1, 1, MOST);
        calls.each("no such what", planned, "at 0 % = index", new String[] {"at 0 2 = -1"}, LEAST, -1, 3, MOST);
        calls.each("-1: it is not placed", planned, "at 0 % = -1", NOTHING, 0, 1, 2);
        calls.each("no such what", ONE_THING, "told 0 % = index", new String[] {"told 0 2 = 1000000"}, LEAST, -1, 3, MOST);
    }

    private static void repairHoursAndWaiting() {
        range("HOURS (1 .. 24)", WEEK, "repair 0 % 0 0", "0", 1, 24, "at 0 0 = index", "repair 0 1 0 0 = 0");
        for (int hours : new int[] {1, 2, 23, 24}) {
            calls.run("take HOURS", "thing 5 5 = 0", "gap 10 " + (10 + hours) + " = 1", "person 0 0 168 = 0",
                    "repair 0 " + hours + " 0 1 = 0", "plan = 1", "at 0 0 = 10");
            if (hours > 1) {
                calls.run("take HOURS", "thing 5 5 = 0", "gap 10 " + (9 + hours) + " = 1", "person 0 0 168 = 0",
                        "repair 0 " + hours + " 0 1 = 0", "plan = 0");
            }
        }
        range("WAITING costs so much an hour (0 .. 1,000)", WEEK, "repair 0 1 0 %", "0", 0, 1000, "at 0 0 = index",
                "repair 0 1 0 0 = 0");
        for (int waiting : new int[] {0, 1, 999, 1000}) {
            calls.run("its waiting times the hour", "thing 5 5 = 0", "gap 167 168 = 1", "person 0 0 168 = 0",
                    "repair 0 1 0 " + waiting + " = 0", "plan = 1", "cost = " + 167 * waiting);
            calls.run("its waiting times 168, and FAILING", "thing 5 5 = 0", "repair 0 1 0 " + waiting + " = 0", "plan = 0",
                    "cost = " + (168 * waiting + 1000));
        }
    }

    private static void restAndFailing() {
        String[] planned = {"rules 3 70 = ok", "thing 5 5 = 0", "thing 5 5 = 1", "gap 0 168 = 1", "person 0 0 168 = 0",
            "repair 0 2 0 1 = 0", "repair 1 2 0 1 = 1", "repair 1 2 3 0 = 2", "plan = 2"};
        String[] asBefore = {"at 1 0 = 5", "cost = 75", "repair 0 1 1 0 = 3", "plan = 2", "at 1 0 = 5", "cost = 145"};
        range("REST hours, 0 .. 24", planned, "rules % 70", "ok", 0, 24, asBefore);
        range("FAILING (0 .. 1,000,000)", planned, "rules 3 %", "ok", 0, 1000000, asBefore);
        for (int rest : new int[] {0, 1, 23, 24}) {
            WearHours x = calls.run("A person rests for REST hours", planned);
            calls.more(x, "A person rests for REST hours", "rules " + rest + " 70 = ok", "at 1 0 = turn", "cost = turn",
                    "done = turn", "plan = 2", "at 0 0 = 0", "at 1 0 = " + (2 + rest), "cost = " + (72 + rest));
        }
        for (int failing : new int[] {0, 1, 999999, 1000000}) {
            WearHours x = calls.run("for each that is not FAILING", planned);
            calls.more(x, "for each that is not FAILING", "rules 3 " + failing + " = ok", "cost = turn", "plan = 2",
                    "cost = " + (5 + failing));
        }
        calls.run("8 at first", "thing 5 5 = 0", "thing 5 5 = 1", "gap 0 11 = 1", "person 0 0 168 = 0", "repair 0 2 0 1 = 0",
                "repair 1 1 0 1 = 1", "plan = 2", "at 1 0 = 10", "rules 9 1000 = ok", "plan = 1", "rules 8 1000 = ok",
                "plan = 2");
        calls.run("1,000 at first", "thing 5 5 = 0", "repair 0 1 0 0 = 0", "plan = 0", "cost = 1000", "rules 8 1000 = ok",
                "plan = 0", "cost = 1000");
    }

    private static void spares() {
        for (int kind = 0; kind < 4; kind++) {
            String name = "spares of kinds 0 .. 3, 0 at first; kind " + kind;
            range(name, NOTHING, "spare " + kind + " %", "%", 0, 100, "spare " + kind + " 0 = 0");
            WearHours x = calls.run(name, "spare " + kind + " 0 = 0");
            for (int i = 1; i <= 10; i++) {
                calls.more(x, name, "spare " + kind + " 100 = " + 100 * i);
            }
            calls.more(x, name, "spare " + kind + " 1 = meaning", "spare " + kind + " 100 = meaning",
                    "spare " + kind + " 0 = 1000");
            for (int other = 0; other < 4; other++) {
                calls.more(x, name, "spare " + other + " 0 = " + (other == kind ? 1000 : 0));
            }
        }
        index("no such kind", NOTHING, "spare % 0", 4);
        WearHours x = new WearHours();
        for (int i = 1; i <= 9; i++) {
            calls.more(x, "above 1,000", "spare 1 100 = " + 100 * i);
        }
        calls.more(x, "above 1,000", "spare 1 1 = 901", "spare 1 100 = meaning", "spare 1 0 = 901", "spare 1 99 = 1000",
                "spare 1 1 = meaning", "spare 1 0 = 1000", "spare 2 100 = 100");
        calls.more(x, "room again behind a repair", "thing 5 5 = 0", "gap 0 9 = 1", "person 1 0 9 = 0", "repair 0 1 1 0 = 0",
                "plan = 1", "done = 1", "spare 1 2 = meaning", "spare 1 1 = 1000", "spare 1 1 = meaning");
    }

    private static void changes() {
        String name = "THE HISTORY of a thing keeps its latest 5 changes";
        WearHours x = calls.run(name, "thing 5 1000000 = 0", "history 0 0 = 0", "history 0 4 = 0", "history 0 5 = 0");
        int sum = 0;
        for (int made = 1; made <= 12; made++) {
            sum += made;
            calls.more(x, name, "use 0 " + made + " = " + sum);
            for (int k = 0; k < 8; k++) {
                calls.more(x, name, "history 0 " + k + " = " + (k < 5 && k < made ? made - k : 0));
            }
        }
        calls.each("k is below 0", ONE_THING, "history 0 % = index", NOTHING, LEAST, -2, -1);
        calls.each("0 when there are not so many", new String[] {"thing 5 5 = 0", "use 0 1 = 1"}, "history 0 % = 0",
                NOTHING, 1, 4, 5, 6, MOST);
        x = calls.run("-1 a repair, -2 closed, -3 opened", WEEK);
        calls.more(x, "-1 a repair, -2 closed, -3 opened", "use 0 1 = 1", "permit 0 false = ok", "permit 0 true = ok",
                "spare 0 1 = 1", "repair 0 1 0 0 = 0", "plan = 1", "history 0 0 = -3", "done = 1", "history 0 0 = -1",
                "history 0 1 = -3", "history 0 2 = -2", "history 0 3 = 1", "history 0 4 = 0", "use 0 5 = 5", "history 0 4 = 1",
                "permit 0 false = ok", "history 0 0 = -2", "history 0 4 = -2", "history 1 0 = 0");
        calls.run("the greatest use is kept whole", "thing 5 1000000 = 0", "use 0 1000000 = 1000000", "history 0 0 = 1000000");
    }

    private static void calls512() {
        String name = "at most 512 calls after it has been made";
        WearHours x = calls.run(name, "thing 1000000 1000000 = 0");
        for (int i = 2; i <= 511; i++) {
            calls.more(x, name, "use 0 1000 = " + 1000 * (i - 1));
        }
        calls.more(x, name, "told 0 0 = 510000");
        x = calls.run(name, "thing 5 5 = 0", "gap 0 168 = 1", "person 0 0 168 = 0", "rules 0 0 = ok");
        for (int i = 5; i + 3 <= 512; i += 4) {
            calls.more(x, name, "spare 0 1 = 1", "repair 0 24 0 1000 = 0", "plan = 1", "done = 1");
        }
    }
}
