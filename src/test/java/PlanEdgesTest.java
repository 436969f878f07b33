/**
 * Plans at their edges, sentence by sentence of the document: a placement that just fits and one
 * that is an hour short, costs that differ by one and costs that are alike, spares that just do,
 * what ends a plan and what leaves it.
 */
public final class PlanEdgesTest {
    // Two things, one person of skill 0 who is there all week, rest 8; the gaps are each test's own.
    private static final String[] PERSON = {"thing 5 5 = 0", "thing 5 5 = 1", "person 0 0 168 = 0"};
    private static final String[] WEEK = {"thing 5 5 = 0", "thing 5 5 = 1", "person 0 0 168 = 0", "gap 0 168 = 1"};

    private static final Calls calls = new Calls();

    public static void main(String[] args) {
        firstHour();
        rested();
        oneAtATime();
        oneRepairOfAThing();
        byNumbers();
        notPlacedTakesNothing();
        costs();
        leastByOne();
        firstOfAlike();
        howMany();
        doing();
        sparesJustDo();
        noPlanThen();
        planStays();
        fullWeeks();
        nothingLeftOfEarlierPlans();
        calls.end();
    }

    private static void rows(String name, String[] ahead, String... rows) {
        calls.more(calls.run(name, ahead), name, rows);
    }

    private static void firstHour() {
        String name = "it begins at the first hour of the gap at which the person is there";
        for (int gapFrom = 9; gapFrom <= 11; gapFrom++) {
            for (int personFrom = 9; personFrom <= 11; personFrom++) {
                int first = gapFrom > personFrom ? gapFrom : personFrom;
                calls.run(name, "thing 5 5 = 0", "gap " + gapFrom + " 60 = 1", "person 0 " + personFrom + " 70 = 0",
                        "repair 0 6 0 1 = 0", "plan = 1", "at 0 0 = " + first, "cost = " + first);
            }
        }
        for (int gapTo = 15; gapTo <= 17; gapTo++) {
            for (int personTo = 15; personTo <= 17; personTo++) {
                int placed = gapTo >= 16 && personTo >= 16 ? 1 : 0;
                calls.run("for all of its hours the gap lasts and the person is there", "thing 5 5 = 0",
                        "gap 10 " + gapTo + " = 1", "person 0 5 " + personTo + " = 0", "repair 0 6 0 1 = 0", "plan = " + placed,
                        "at 0 0 = " + (placed == 1 ? 10 : -1), "cost = " + (placed == 1 ? 10 : 1168));
            }
        }
    }

    private static void rested() {
        String name = "and has rested";
        rows(name + " ahead of the gap", PERSON, "gap 0 4 = 1", "gap 13 17 = 2", "repair 0 4 0 9 = 0", "repair 1 4 0 9 = 1",
                "plan = 2", "at 0 0 = 0", "at 1 0 = 13", "at 1 2 = 1");
        rows(name + " as the gap begins", PERSON, "gap 0 4 = 1", "gap 12 16 = 2", "repair 0 4 0 9 = 0", "repair 1 4 0 9 = 1",
                "plan = 2", "at 1 0 = 12");
        rows(name + " an hour behind its beginning, which leaves just enough", PERSON, "gap 0 4 = 1", "gap 11 16 = 2",
                "repair 0 4 0 9 = 0", "repair 1 4 0 9 = 1", "plan = 2", "at 1 0 = 12");
        rows(name + " an hour behind its beginning, which is one too many", PERSON, "gap 0 4 = 1", "gap 11 15 = 2",
                "repair 0 4 0 9 = 0", "repair 1 4 0 9 = 1", "plan = 1", "at 0 0 = 0", "at 1 0 = -1", "cost = 2512");
        rows(name + " in the same gap, just so", PERSON, "gap 0 16 = 1", "repair 0 4 0 9 = 0", "repair 1 4 0 9 = 1", "plan = 2",
                "at 1 0 = 12");
        rows(name + " in the same gap, an hour short", PERSON, "gap 0 15 = 1", "repair 0 4 0 9 = 0", "repair 1 4 0 9 = 1",
                "plan = 1", "at 0 0 = 0", "at 1 0 = -1");
        rows(name + " where the person leaves, just so", new String[] {"thing 5 5 = 0", "thing 5 5 = 1", "gap 0 168 = 1",
                "person 0 0 16 = 0"}, "repair 0 4 0 9 = 0", "repair 1 4 0 9 = 1", "plan = 2", "at 1 0 = 12");
        rows(name + " where the person leaves, an hour short", new String[] {"thing 5 5 = 0", "thing 5 5 = 1", "gap 0 168 = 1",
                "person 0 0 15 = 0"}, "repair 0 4 0 9 = 0", "repair 1 4 0 9 = 1", "plan = 1", "at 0 0 = 0", "at 1 0 = -1");
        rows("A person rests behind each repair", WEEK, "repair 0 1 0 9 = 0", "repair 1 2 0 9 = 1", "repair 0 3 0 9 = 2",
                "repair 1 4 0 9 = 3", "repair 0 5 0 9 = 4", "plan = 5", "at 0 0 = 0", "at 1 0 = 9", "at 2 0 = 19",
                "at 3 0 = 30", "at 4 0 = 42", "cost = 900");
        rows("no rest is due ahead of the first repair", PERSON, "gap 0 24 = 1", "rules 24 1000 = ok", "repair 0 24 0 9 = 0",
                "plan = 1", "at 0 0 = 0");
        rows("a rest may go on behind the week", PERSON, "gap 0 168 = 1", "rules 24 1000 = ok", "repair 0 24 0 1 = 0",
                "repair 0 24 0 1 = 1", "repair 0 24 0 1 = 2", "repair 0 24 0 1 = 3", "repair 1 1 0 0 = 4", "plan = 4",
                "at 2 0 = 96", "at 3 0 = 144", "at 4 0 = -1");
    }

    private static void oneAtATime() {
        rows("does one at a time: no rest", WEEK, "rules 0 1000 = ok", "repair 0 3 0 9 = 0", "repair 1 3 0 9 = 1", "plan = 2",
                "at 0 0 = 0", "at 1 0 = 3");
        rows("does one at a time: two gaps at once are one person's hours still", PERSON, "gap 0 4 = 1", "gap 0 4 = 2",
                "rules 0 1000 = ok", "repair 0 4 0 9 = 0", "repair 1 4 0 9 = 1", "plan = 1", "at 0 2 = 0", "at 1 0 = -1");
        rows("two persons do two at once in one gap", PERSON, "person 0 0 168 = 1", "gap 0 4 = 1", "repair 0 4 0 9 = 0",
                "repair 1 4 0 9 = 1", "plan = 2", "at 0 0 = 0", "at 1 0 = 0", "at 0 1 = 0", "at 1 1 = 1");
    }

    private static void oneRepairOfAThing() {
        String name = "a thing is in one repair at a time";
        String[] two = {"thing 5 5 = 0", "thing 5 5 = 1", "person 0 0 168 = 0", "person 0 0 168 = 1"};
        rows(name + ", and needs no rest", two, "gap 0 8 = 1", "repair 0 4 0 9 = 0", "repair 0 4 0 9 = 1", "plan = 2",
                "at 0 0 = 0", "at 1 0 = 4", "at 1 1 = 1");
        rows(name + ": an hour short", two, "gap 0 7 = 1", "repair 0 4 0 9 = 0", "repair 0 4 0 9 = 1", "plan = 1", "at 0 0 = 0",
                "at 1 0 = -1");
        rows(name + ": another thing does not wait", two, "gap 0 7 = 1", "repair 0 4 0 9 = 0", "repair 1 4 0 9 = 1", "plan = 2",
                "at 1 0 = 0");
        rows(name + ": the last thing too", new String[] {"thing 5 5 = 0", "thing 5 5 = 1", "thing 5 5 = 2", "thing 5 5 = 3",
                "thing 5 5 = 4",
            "thing 5 5 = 5", "thing 5 5 = 6", "thing 5 5 = 7", "person 0 0 168 = 0", "person 0 0 168 = 1"},
                "gap 0 168 = 1", "repair 7 4 0 9 = 0", "repair 7 4 0 9 = 1", "repair 6 1 0 0 = 2", "plan = 3", "at 0 0 = 0",
                        "at 1 0 = 4", "at 2 0 = 12");
        rows(name + ", whatever the skills", two, "person 2 0 168 = 2", "gap 0 8 = 1", "repair 0 4 0 9 = 0",
                "repair 0 4 2 9 = 1", "plan = 2", "at 0 0 = 0", "at 1 0 = 4", "at 1 1 = 2");
    }

    private static void byNumbers() {
        String name = "repairs are placed by numbers, each behind those that the same person has placed already";
        rows(name, PERSON, "gap 20 24 = 1", "gap 0 2 = 2", "repair 0 4 0 2 = 0", "repair 1 2 0 1 = 1", "plan = 1",
                "at 0 0 = 20", "at 1 0 = -1");
        rows(name + ", but another person's may go ahead", PERSON, "person 0 0 3 = 1", "gap 20 24 = 1", "gap 0 2 = 2",
                "repair 0 4 0 1 = 0", "repair 1 2 0 1 = 1", "plan = 2", "at 0 0 = 20", "at 1 0 = 0", "at 1 1 = 1", "at 1 2 = 1");
        rows("the thing till the end of its latest one: no repair of it goes ahead", PERSON, "person 0 0 3 = 1",
                "gap 20 24 = 1", "gap 0 2 = 2", "repair 0 4 0 2 = 0", "repair 0 2 0 1 = 1", "plan = 1", "at 0 0 = 20",
                "at 1 0 = -1");
        rows("the other way round both have their gap", PERSON, "gap 20 24 = 1", "gap 0 2 = 2", "repair 1 2 0 1 = 0",
                "repair 0 4 0 1 = 1", "plan = 2", "at 0 0 = 0", "at 1 0 = 20");
    }

    private static void notPlacedTakesNothing() {
        rows("a repair that is not placed keeps neither person nor thing", WEEK, "repair 0 4 3 9 = 0", "repair 0 4 0 9 = 1",
                "plan = 1", "at 0 0 = -1", "at 0 1 = -1", "at 0 2 = -1", "at 1 0 = 0", "at 1 1 = 0", "at 1 2 = 0");
        rows("nor when it could be placed", PERSON, "gap 0 4 = 1", "repair 0 4 0 1 = 0", "repair 0 4 0 9 = 1", "plan = 1",
                "at 0 0 = -1", "at 1 0 = 0");
    }

    private static void costs() {
        calls.run("THE COST of no repairs", "cost = turn", "plan = 0", "cost = 0");
        rows("THE COST, as much as there may be", WEEK, "rules 0 1000000 = ok", "repair 0 1 1 1000 = 0",
                "repair 0 1 1 1000 = 1", "repair 0 1 1 1000 = 2", "repair 0 1 1 1000 = 3", "repair 0 1 1 1000 = 4", "plan = 0",
                "cost = 5840000");
        rows("THE COST of all placed, as late as there may be", new String[] {"thing 5 5 = 0", "gap 163 168 = 1",
                "person 0 163 168 = 0"},
                "rules 0 1000 = ok", "repair 0 1 0 1000 = 0", "repair 0 1 0 1000 = 1", "repair 0 1 0 1000 = 2",
                        "repair 0 1 0 1000 = 3", "repair 0 1 0 1000 = 4", "plan = 5", "at 4 0 = 167", "cost = 825000");
        rows("THE COST of both kinds", PERSON, "gap 7 17 = 1", "rules 0 55 = ok", "repair 0 5 0 10 = 0", "repair 0 5 0 20 = 1",
                "repair 1 1 0 3 = 2", "plan = 2", "at 0 0 = 7", "at 1 0 = 12", "at 2 0 = -1", "cost = 869");
        rows("no cost at hour 0, nor without waiting", WEEK, "repair 0 1 0 1000 = 0", "repair 1 24 0 0 = 1", "plan = 2",
                "at 1 0 = 9", "cost = 0");
    }

    // Placing repair 0 makes repair 1 wait 24 hours at 10 each; not placing it costs FAILING.
    private static void leastByOne() {
        String name = "THE BEST has the least cost";
        String[] ahead = {"thing 5 5 = 0", "thing 5 5 = 1", "person 0 0 168 = 0", "gap 0 168 = 1", "repair 0 24 0 0 = 0",
                "repair 1 1 0 10 = 1"};
        rows(name + ": not placing is dearer by one", ahead, "rules 0 241 = ok", "plan = 2", "at 0 0 = 0", "at 1 0 = 24",
                "cost = 240");
        rows(name + ": alike", ahead, "rules 0 240 = ok", "plan = 2", "at 0 0 = 0", "at 1 0 = 24", "cost = 240");
        rows(name + ": not placing is cheaper by one", ahead, "rules 0 239 = ok", "plan = 1", "at 0 0 = -1", "at 1 0 = 0",
                "cost = 239");
        String[] slot = {"thing 5 5 = 0", "thing 5 5 = 1", "person 0 0 168 = 0", "gap 0 4 = 1"};
        rows(name + ": the second is dearer by one", slot, "repair 0 4 0 7 = 0", "repair 1 4 0 8 = 1", "plan = 1",
                "at 0 0 = -1", "at 1 0 = 0", "cost = 2176");
        rows(name + ": alike", slot, "repair 0 4 0 8 = 0", "repair 1 4 0 8 = 1", "plan = 1", "at 0 0 = 0", "at 1 0 = -1",
                "cost = 2344");
        rows(name + ": the first is dearer by one", slot, "repair 0 4 0 8 = 0", "repair 1 4 0 7 = 1", "plan = 1", "at 0 0 = 0",
                "at 1 0 = -1", "cost = 2176");
        rows(name + ", not the most placed", PERSON, "gap 0 24 = 1", "rules 0 0 = ok", "repair 0 24 0 1 = 0",
                "repair 1 1 0 0 = 1", "repair 1 1 0 0 = 2", "repair 1 1 0 0 = 3", "plan = 1", "at 0 0 = 0", "cost = 0");
        rows(name + ", the most placed where failing is dear", PERSON, "gap 0 24 = 1", "rules 0 169 = ok",
                "repair 0 24 0 1 = 0", "repair 1 1 0 0 = 1", "repair 1 1 0 0 = 2", "plan = 2", "at 0 0 = -1", "cost = 337");
    }

    private static void firstOfAlike() {
        String[] two = {"thing 5 5 = 0", "thing 5 5 = 1", "person 0 0 168 = 0", "person 0 0 168 = 1"};
        rows("not placed behind all placements", PERSON, "rules 8 0 = ok", "gap 160 168 = 1", "repair 0 8 0 0 = 0", "plan = 1",
                "at 0 0 = 160", "cost = 0");
        rows("not placed behind the last gap's last person", two, "rules 0 0 = ok", "gap 0 1 = 1", "gap 0 1 = 2",
                "gap 100 105 = 3", "person 0 99 168 = 2", "person 0 101 168 = 3", "repair 0 4 0 0 = 0", "repair 0 1 1 0 = 1",
                "plan = 1", "at 0 2 = 2", "at 0 1 = 0");
        rows("of the lowest gap the lowest person first", two, "gap 5 9 = 1", "gap 5 9 = 2", "repair 0 4 0 3 = 0", "plan = 1",
                "at 0 2 = 0", "at 0 1 = 0");
        rows("gaps ahead of persons", new String[] {"thing 5 5 = 0", "person 0 50 168 = 0",
                "person 0 0 168 = 1"}, "gap 0 9 = 1", "gap 50 59 = 2", "repair 0 4 0 0 = 0", "plan = 1", "at 0 2 = 0",
                "at 0 1 = 1", "at 0 0 = 0");
        rows("the lowest gap, not the first hour", PERSON, "gap 100 109 = 1", "gap 0 9 = 2", "repair 0 4 0 0 = 0", "plan = 1",
                "at 0 2 = 0", "at 0 0 = 100");
        rows("the first hour where it costs", PERSON, "gap 100 109 = 1", "gap 0 9 = 2", "repair 0 4 0 1 = 0", "plan = 1",
                "at 0 2 = 1", "at 0 0 = 0");
        rows("repair 0 chooses ahead of repair 1", two, "gap 0 4 = 1", "gap 0 4 = 2", "repair 0 4 0 9 = 0",
                "repair 1 4 0 9 = 1", "plan = 2", "at 0 2 = 0", "at 0 1 = 0", "at 1 2 = 0", "at 1 1 = 1");
        rows("repair 0 keeps clear of what repair 1 needs", two, "person 1 0 1 = 2", "gap 0 4 = 1", "gap 50 54 = 2",
                "repair 0 4 0 0 = 0", "repair 0 4 0 1 = 1", "plan = 2", "at 0 2 = 0", "at 1 2 = 1", "at 1 0 = 50", "cost = 50");
        rows("a free repair 0 lets the dear one go first", PERSON, "gap 50 54 = 1", "gap 0 4 = 2", "rules 8 0 = ok",
                "repair 0 4 0 0 = 0", "repair 1 4 0 1 = 1", "plan = 1", "at 0 0 = -1", "at 1 0 = 0", "at 1 2 = 1", "cost = 0");
        rows("alike to the last repair", two, "gap 0 168 = 1", "gap 0 168 = 2", "rules 0 1000 = ok", "repair 0 1 0 0 = 0",
                "repair 0 1 0 0 = 1", "repair 0 1 0 0 = 2", "repair 0 1 0 0 = 3", "repair 0 1 0 0 = 4", "plan = 5",
                "at 0 0 = 0", "at 1 0 = 1", "at 4 0 = 4", "at 0 1 = 0", "at 4 1 = 0", "at 4 2 = 0", "cost = 0");
        rows("the lowest person, though he begins later", new String[] {"thing 5 5 = 0", "person 0 30 168 = 0",
                "person 0 0 168 = 1"}, "gap 0 168 = 1", "repair 0 4 0 0 = 0", "plan = 1", "at 0 1 = 0", "at 0 0 = 30");
    }

    private static void howMany() {
        for (int repairs = 0; repairs <= 5; repairs++) {
            for (int placed = 0; placed <= repairs; placed++) {
                WearHours x = calls.run("how many repairs are placed", WEEK);
                for (int i = 0; i < repairs; i++) {
                    calls.more(x, "how many repairs are placed", "repair 0 1 " + (i < placed ? 0 : 1) + " 1 = " + i);
                }
                calls.more(x, "how many repairs are placed",
                        "plan = " + placed, "plan = " + placed, "at " + repairs + " 0 = index");
                for (int i = 0; i < repairs; i++) {
                    calls.more(x, "how many repairs are placed", "at " + i + " 0 = " + (i < placed ? 9 * i : -1));
                }
                calls.more(x, "how many repairs were done",
                        "spare 0 " + placed + " = " + placed, "done = " + placed, "spare 0 0 = 0", "done = turn");
            }
        }
    }

    private static void doing() {
        rows("each thing whose repair is placed was used 0 then", WEEK, "use 0 9 = 9", "use 1 4 = 4", "spare 0 9 = 9",
                "repair 0 1 0 0 = 0", "repair 1 1 1 0 = 1", "plan = 1", "told 0 0 = 9", "history 0 0 = 9", "done = 1",
                "told 0 0 = 0", "told 0 1 = 0", "told 0 2 = 5", "told 1 0 = 4", "history 1 0 = 4", "spare 0 0 = 8",
                "spare 1 0 = 0");
        rows("what was used 0 is repaired all the same", WEEK, "spare 0 1 = 1", "repair 0 1 0 0 = 0", "plan = 1", "done = 1",
                "told 0 0 = 0", "history 0 0 = -1", "history 0 1 = 0", "spare 0 0 = 0");
        rows("all repairs are gone then", WEEK, "repair 0 1 0 0 = 0", "repair 0 1 0 0 = 1", "repair 0 1 0 0 = 2",
                "repair 0 1 0 0 = 3", "repair 0 1 3 0 = 4", "plan = 4", "done = 0", "at 0 0 = index", "at 4 0 = index",
                "cost = turn", "plan = 0", "cost = 0", "repair 1 2 0 3 = 0", "at 0 0 = turn", "repair 0 1 0 0 = 1",
                "repair 0 1 0 0 = 2", "repair 0 1 0 0 = 3", "repair 0 1 0 0 = 4", "repair 0 1 0 0 = meaning", "plan = 5");
        rows("the next plan's persons have rested", WEEK, "spare 0 9 = 9", "repair 0 24 0 1 = 0", "plan = 1", "done = 1",
                "repair 0 1 0 1 = 0", "plan = 1", "at 0 0 = 0", "cost = 0");
        rows("what was used since the plan goes too", WEEK, "spare 0 1 = 1", "repair 0 1 0 0 = 0", "plan = 1", "use 0 7 = 7",
                "done = 1", "told 0 0 = 0", "history 0 0 = -1", "history 0 1 = 7");
        rows("a closed permit stays closed, an open one open", WEEK, "spare 0 2 = 2", "permit 0 false = ok",
                "repair 0 1 0 0 = 0", "repair 1 1 0 0 = 1", "plan = 2", "done = 2", "told 0 1 = 1", "told 1 1 = 0",
                "permit 0 false = meaning", "permit 1 true = meaning");
    }

    private static void sparesJustDo() {
        for (int spares = 0; spares <= 6; spares++) {
            String name = "not below 0: without one it is not done, though placed; " + spares;
            WearHours x = calls.run(name, WEEK);
            calls.more(x, name, "thing 5 5 = 2", "thing 5 5 = 3", "thing 5 5 = 4",
                    "spare 0 " + spares + " = " + spares, "spare 1 50 = 50");
            for (int i = 0; i < 5; i++) calls.more(x, name, "use " + i + " 3 = 3", "repair " + i + " 1 0 0 = " + i);
            int done = spares < 5 ? spares : 5;
            calls.more(x, name, "plan = 5", "done = " + done, "spare 0 0 = " + (spares - done), "spare 1 0 = 50",
                    "at 0 0 = index");
            // The document tells no order for scarce spares; a shared run fits the repairs' numbers, not their reverse.
            for (int i = 0; i < 5; i++) {
                calls.more(x, name, "told " + i + " 0 = " + (i < done ? 0 : 3), "history " + i + " 0 = " + (i < done ? -1 : 3));
            }
        }
        rows("the last spare goes by numbers, not by hours", new String[] {"thing 5 5 = 0", "thing 5 5 = 1", "gap 0 168 = 1",
                "person 0 50 168 = 0", "person 0 0 168 = 1"}, "use 0 3 = 3", "use 1 3 = 3", "spare 0 1 = 1",
                "repair 0 4 0 0 = 0", "repair 1 4 0 9 = 1", "plan = 2", "at 0 0 = 50", "at 1 0 = 0", "done = 1",
                "told 0 0 = 0", "told 1 0 = 3");
        rows("a spare told behind the plan does", WEEK, "repair 0 1 0 0 = 0", "plan = 1", "spare 0 1 = 1", "done = 1",
                "spare 0 0 = 0");
        rows("one thing twice, one spare", WEEK, "use 0 3 = 3", "spare 0 1 = 1", "repair 0 1 0 0 = 0", "repair 0 1 0 0 = 1",
                "plan = 2", "done = 1", "history 0 0 = -1", "history 0 1 = 3", "spare 0 0 = 0");
        rows("one thing five times, its history is full of repairs", WEEK, "use 0 3 = 3", "spare 0 5 = 5", "repair 0 1 0 0 = 0",
                "repair 0 1 0 0 = 1", "repair 0 1 0 0 = 2", "repair 0 1 0 0 = 3", "repair 0 1 0 0 = 4", "plan = 5", "done = 5",
                "history 0 0 = -1", "history 0 4 = -1", "history 0 5 = 0", "spare 0 0 = 0");
    }

    private static void noPlanThen() {
        for (String call : new String[] {"gap 0 1 = 2", "person 0 0 1 = 1", "repair 0 1 0 0 = 1", "rules 8 1000 = ok",
                "rules 0 0 = ok"}) {
            String name = "there is no plan then: " + call;
            WearHours x = calls.run(name, WEEK);
            calls.more(x, name, "repair 0 4 0 5 = 0", "cost = turn", "at 0 0 = turn", "done = turn", "plan = 1", "at 0 0 = 0",
                    "cost = 0", call,
                    "at 0 0 = turn", "at 0 2 = turn", "cost = turn", "done = turn", "at 2 0 = index", "at 0 3 = index");
        }
        rows("there is no plan behind done", WEEK, "plan = 0", "done = 0", "cost = turn", "done = turn", "at 0 0 = index",
                "plan = 0", "done = 0");
        rows("done is not done again", WEEK, "spare 0 9 = 9", "repair 0 4 0 5 = 0", "plan = 1", "done = 1", "done = turn",
                "spare 0 0 = 8");
    }

    private static void planStays() {
        String[] others = {"seed 9 = ok", "thing 5 5 = 2", "use 0 1 = 1", "told 0 0 = 0", "left 0 0 = 3", "permit 0 false = ok",
                "history 0 0 = 0",
            "spare 0 1 = 1", "plan = 1", "at 0 0 = 3", "cost = 30", "gap 1 1 = range", "person 4 0 1 = range",
            "repair 2 1 0 0 = index",
            "repair 0 0 0 0 = range", "rules 25 0 = range", "rules 0 1000001 = range", "at 1 0 = index", "spare 4 0 = index"};
        for (String call : others) {
            String name = "the plan stays: " + call;
            calls.run(name, "thing 5 5 = 0", "thing 5 5 = 1", "gap 3 168 = 1", "person 0 0 168 = 0", "repair 0 4 0 10 = 0",
                    "plan = 1", call,
                    "at 0 0 = 3", "at 0 1 = 0", "at 0 2 = 0", "cost = 30", "plan = 1", "cost = 30");
        }
    }

    // 8 things, 6 gaps, 4 persons and 5 repairs: every row is full, whether all are placed or none.
    private static void fullWeeks() {
        for (int hours : new int[] {6, 7}) {
            String name = "as many as there may be, repairs of " + hours + " hours in gaps of 6";
            WearHours x = new WearHours();
            for (int i = 0; i < 8; i++) calls.more(x, name, "thing 5 5 = " + i);
            for (int i = 0; i < 6; i++) calls.more(x, name, "gap " + (162 - 28 * i) + " " + (168 - 28 * i) + " = " + (i + 1));
            for (int i = 0; i < 4; i++) calls.more(x, name, "person 3 0 168 = " + i);
            for (int i = 0; i < 5; i++) calls.more(x, name, "repair " + (7 - i) + " " + hours + " 3 1000 = " + i);
            calls.more(x, name, "spare 3 100 = 100");
            if (hours == 6) {
                // One of the five comes second to person 0; repair 1 is the first that can, and gap 4 is ahead of gap 5.
                calls.more(x, name, "plan = 5", "at 0 0 = 22", "at 0 1 = 0", "at 0 2 = 5", "at 1 0 = 50", "at 1 1 = 0",
                        "at 1 2 = 4", "at 2 1 = 1", "at 2 2 = 5", "at 4 0 = 22", "at 4 1 = 3", "at 4 2 = 5", "cost = 138000",
                        "done = 5", "spare 3 0 = 95", "history 3 0 = -1", "history 2 0 = 0");
            } else {
                calls.more(x, name, "plan = 0", "at 0 0 = -1", "at 4 2 = -1", "cost = 845000", "done = 0", "spare 3 0 = 100",
                        "history 3 0 = 0");
            }
        }
    }

    // Five repairs as dear as can be, then fewer of them: the later search must not reckon with the earlier costs.
    private static void nothingLeftOfEarlierPlans() {
        for (int count = 0; count <= 5; count++) {
            String name = "all repairs are gone then, and " + count + " come behind five";
            WearHours x = calls.run(name, "thing 5 5 = 0", "gap 0 168 = 1", "person 0 50 168 = 0", "person 0 0 168 = 1",
                    "rules 0 1000000 = ok");
            for (int i = 0; i < 5; i++) calls.more(x, name, "repair 0 24 1 1000 = " + i);
            calls.more(x, name, "plan = 0", "cost = 5840000", "done = 0");
            for (int i = 0; i < count; i++) calls.more(x, name, "repair 0 1 0 1 = " + i);
            calls.more(x, name, "plan = " + count, "cost = " + count * (count - 1) / 2, "at " + count + " 0 = index");
            for (int i = 0; i < count; i++) calls.more(x, name, "at " + i + " 0 = " + i, "at " + i + " 1 = 1");
        }
    }
}
