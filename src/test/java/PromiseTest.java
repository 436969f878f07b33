/** Each promise of the document: ordinary inputs, the edges that it names, wrong inputs and their order. */
public final class PromiseTest {
    private static final String[] WHOLE_WEEK = {"thing 5 5 = 0", "gap 0 168 = 1", "person 0 0 168 = 0"};

    private static final Calls calls = new Calls();

    public static void main(String[] args) {
        promise1();
        promise2();
        promise3();
        promise4();
        promise5();
        promise6();
        promise7();
        promise8();
        promise9();
        promise10();
        promise11();
        promise12();
        promise13Placement();
        promise13Order();
        promise13Choice();
        promise14();
        promise15();
        promise16();
        promise17();
        calls.end();
    }

    private static void promise1() {
        calls.run("1 nothing is there", "told 0 0 = index", "use 0 1 = index", "left 0 0 = index", "permit 0 false = index",
                "history 0 0 = index", "repair 0 1 0 0 = index", "at 0 0 = index", "cost = turn", "done = turn",
                "spare 0 0 = 0", "spare 1 0 = 0", "spare 2 0 = 0", "spare 3 0 = 0");
        calls.run("1 an empty plan", "plan = 0", "cost = 0", "at 0 0 = index", "done = 0", "done = turn");
        calls.run("1 seed 1 at first", "thing 1000000 1 = 0", "left 0 0 = 760000", "seed 1 = ok", "left 0 0 = 760000");
        calls.run("1 rest 8 and failing 1000 at first", "thing 5 5 = 0", "thing 5 5 = 1", "gap 0 168 = 1",
                "person 0 0 168 = 0", "repair 0 2 0 1 = 0", "repair 1 2 0 1 = 1", "repair 1 2 1 0 = 2", "plan = 2",
                "at 1 0 = 10", "cost = 1010");
        WearHours one = calls.run("1 objects are apart", "thing 9 9 = 0", "gap 0 1 = 1", "spare 0 5 = 5");
        calls.run("1 objects are apart", "told 0 0 = index", "gap 0 1 = 1", "spare 0 0 = 0", "seed 7 = ok");
        calls.more(one, "1 objects are apart", "told 0 2 = 9", "gap 0 1 = 2", "spare 0 0 = 5", "left 0 0 = 6");
    }

    private static void promise2() {
        calls.run("2 any long", "thing 100 1 = 0", "thing 100 1 = 1",
                "seed 0 = ok", "left 0 0 = 128", "left 1 0 = 51",
                "seed -1 = ok", "left 0 0 = 143", "left 1 0 = 63",
                "seed 9223372036854775807 = ok", "left 0 0 = 127", "left 1 0 = 148",
                "seed -9223372036854775808 = ok", "left 0 0 = 104", "left 1 0 = 70",
                "seed 1 = ok", "left 0 0 = 76", "left 1 0 = 97");
        calls.run("2 leaves the plan", "plan = 0", "seed 5 = ok", "cost = 0");
    }

    private static void promise3() {
        calls.run("3 eight things", "thing 1 1 = 0", "thing 1000000 1000000 = 1", "thing 1 1000000 = 2",
                "thing 1000000 1 = 3", "thing 5 6 = 4", "thing 5 6 = 5", "thing 5 6 = 6", "thing 5 7 = 7",
                "thing 5 6 = meaning", "told 7 2 = 7", "told 8 0 = index");
        calls.run("3 range", "thing 0 1 = range", "thing 1 0 = range", "thing 1000001 1 = range", "thing 1 1000001 = range",
                "thing -1 1 = range", "thing 1 -2147483648 = range", "thing 2147483647 1 = range", "told 0 0 = index");
        calls.run("3 range ahead of meaning", "thing 1 1 = 0", "thing 1 1 = 1", "thing 1 1 = 2", "thing 1 1 = 3",
                "thing 1 1 = 4", "thing 1 1 = 5", "thing 1 1 = 6", "thing 1 1 = 7", "thing 0 1 = range",
                "thing 1 0 = range", "thing 1 1 = meaning");
        calls.run("3 leaves the plan", "plan = 0", "thing 1 1 = 0", "cost = 0", "told 0 1 = 0", "history 0 0 = 0");
    }

    private static void promise4() {
        calls.run("4 sums", "thing 9 50 = 0", "thing 9 50 = 1", "use 0 1 = 1", "use 0 30 = 31", "use 1 4 = 4",
                "told 0 0 = 31", "told 1 0 = 4");
        calls.run("4 a use may go over the bound, once", "thing 9 50 = 0", "use 0 49 = 49", "use 0 1000000 = 1000049",
                "use 0 1 = turn", "told 0 0 = 1000049", "history 0 0 = 1000000");
        calls.run("4 barred at the bound itself", "thing 9 50 = 0", "use 0 50 = 50", "use 0 1 = turn");
        calls.run("4 barred by the permit", "thing 9 50 = 0", "permit 0 false = ok", "use 0 1 = turn",
                "permit 0 true = ok", "use 0 1 = 1");
        calls.run("4 wrong inputs", "thing 9 50 = 0", "use 1 1 = index", "use -1 1 = index", "use 2147483647 1 = index",
                "use 0 0 = range", "use 0 -1 = range", "use 0 1000001 = range", "told 0 0 = 0", "history 0 0 = 0");
        calls.run("4 order", "thing 9 50 = 0", "use 1 0 = index", "permit 0 false = ok", "use 0 0 = turn", "use 1 1 = index");
        calls.run("4 leaves the plan", "thing 9 50 = 0", "plan = 0", "use 0 5 = 5", "cost = 0");
    }

    private static void promise5() {
        calls.run("5 told", "thing 9 50 = 0", "told 0 0 = 0", "told 0 1 = 0", "told 0 2 = 50", "use 0 49 = 49",
                "told 0 0 = 49", "told 0 1 = 0", "told 0 2 = 1", "use 0 1 = 50", "told 0 1 = 1", "told 0 2 = 0");
        calls.run("5 above the bound", "thing 9 50 = 0", "use 0 70 = 70", "told 0 0 = 70", "told 0 1 = 1", "told 0 2 = 0");
        calls.run("5 a closed permit bars, the bound stays", "thing 9 50 = 0", "use 0 20 = 20", "permit 0 false = ok",
                "told 0 1 = 1", "told 0 2 = 30", "permit 0 true = ok", "told 0 1 = 0");
        calls.run("5 a permit opens no bound", "thing 9 50 = 0", "use 0 50 = 50", "permit 0 false = ok",
                "permit 0 true = ok", "told 0 1 = 1");
        calls.run("5 wrong inputs", "thing 9 50 = 0", "told 0 3 = index", "told 0 -1 = index", "told 1 0 = index",
                "told -1 0 = index", "told -2147483648 2147483647 = index");
    }

    private static void promise6() {
        calls.run("6 by thing and number", "thing 100 1 = 0", "thing 100 1 = 1", "left 0 0 = 76", "left 0 1 = 96",
                "left 0 1000 = 121", "left 1 0 = 97", "left 0 0 = 76");
        calls.run("6 the last thing", "thing 1 1 = 0", "thing 1 1 = 1", "thing 1 1 = 2", "thing 1 1 = 3", "thing 1 1 = 4",
                "thing 1 1 = 5", "thing 1 1 = 6", "thing 1000000 1 = 7", "left 7 0 = 870000", "left 7 1000 = 1160000");
        calls.run("6 the least and the greatest", "thing 1000000 1 = 0", "left 0 19 = 500000", "left 0 53 = 1500000");
        calls.run("6 rounded down", "thing 7 9 = 0", "left 0 0 = 5", "left 0 1 = 6", "left 0 2 = 8", "left 0 4 = 9",
                "left 0 5 = 10", "thing 1 1 = 1", "left 1 0 = 0");
        calls.run("6 less the sum, not below 0", "thing 100 100 = 0", "use 0 75 = 75", "left 0 0 = 1", "use 0 1 = 76",
                "left 0 0 = 0", "use 0 1 = 77", "left 0 0 = 0", "left 0 1 = 19");
        calls.run("6 wrong inputs", "thing 100 1 = 0", "left 1 0 = index", "left -1 0 = index", "left 0 -1 = range",
                "left 0 1001 = range", "left 0 2147483647 = range", "left 1 -1 = index");
    }

    private static void promise7() {
        calls.run("7 closes and opens", "thing 9 9 = 0", "permit 0 true = meaning", "permit 0 false = ok", "told 0 1 = 1",
                "permit 0 false = meaning", "permit 0 true = ok", "told 0 1 = 0", "history 0 0 = -3", "history 0 1 = -2",
                "history 0 2 = 0");
        calls.run("7 one thing's permit", "thing 9 9 = 0", "thing 9 9 = 1", "permit 1 false = ok", "told 0 1 = 0",
                "told 1 1 = 1");
        calls.run("7 wrong inputs", "thing 9 9 = 0", "permit 1 false = index", "permit -1 true = index", "permit 1 true = index");
        calls.run("7 leaves the plan", "thing 9 9 = 0", "plan = 0", "permit 0 false = ok", "cost = 0");
    }

    private static void promise8() {
        calls.run("8 the latest five", "thing 9 90 = 0", "use 0 1 = 1", "use 0 2 = 3", "use 0 3 = 6", "permit 0 false = ok",
                "permit 0 true = ok", "history 0 4 = 1", "use 0 4 = 10", "history 0 0 = 4", "history 0 1 = -3",
                "history 0 2 = -2", "history 0 3 = 3", "history 0 4 = 2", "history 0 5 = 0", "history 0 2147483647 = 0");
        calls.run("8 of each thing", "thing 9 90 = 0", "thing 9 90 = 1", "use 1 5 = 5", "history 0 0 = 0", "history 1 0 = 5");
        calls.run("8 refused calls are no changes", "thing 9 9 = 0", "use 0 0 = range", "permit 0 true = meaning",
                "use 0 9 = 9", "use 0 1 = turn", "history 0 0 = 9", "history 0 1 = 0");
        calls.run("8 wrong inputs", "thing 9 9 = 0", "history 0 -1 = index", "history 1 0 = index", "history -1 0 = index",
                "history 0 -2147483648 = index", "history 1 -1 = index");
    }

    private static void promise9() {
        calls.run("9 six gaps", "gap 0 1 = 1", "gap 167 168 = 2", "gap 0 168 = 3", "gap 0 1 = 4", "gap 5 6 = 5",
                "gap 5 6 = 6", "gap 5 6 = meaning", "gap 6 5 = range");
        calls.run("9 range", "gap -1 5 = range", "gap 0 169 = range", "gap 5 5 = range", "gap 5 4 = range",
                "gap 168 168 = range", "gap 168 169 = range", "gap 0 0 = range", "gap -2147483648 2147483647 = range",
                "gap 0 1 = 1");
        calls.run("9 no plan then", "plan = 0", "gap 0 1 = 1", "cost = turn", "plan = 0", "gap 1 1 = range", "cost = 0");
        calls.run("9 refused, the plan stays", "gap 0 1 = 1", "gap 0 1 = 2", "gap 0 1 = 3", "gap 0 1 = 4", "gap 0 1 = 5",
                "gap 0 1 = 6", "plan = 0", "gap 0 1 = meaning", "cost = 0");
    }

    private static void promise10() {
        calls.run("10 four persons", "person 0 0 1 = 0", "person 3 167 168 = 1", "person 1 0 168 = 2", "person 2 5 6 = 3",
                "person 0 0 1 = meaning", "person 4 0 1 = range", "person 0 1 1 = range");
        calls.run("10 range", "person -1 0 1 = range", "person 4 0 1 = range", "person 0 -1 5 = range", "person 0 0 169 = range",
                "person 0 5 5 = range", "person 0 5 4 = range", "person 0 168 168 = range", "person 2147483647 0 1 = range",
                "person 0 0 1 = 0");
        calls.run("10 no plan then", "plan = 0", "person 0 0 1 = 0", "cost = turn", "plan = 0", "person 4 0 1 = range",
                "cost = 0");
        calls.run("10 refused, the plan stays", "person 0 0 1 = 0", "person 0 0 1 = 1", "person 0 0 1 = 2", "person 0 0 1 = 3",
                "plan = 0", "person 0 0 1 = meaning", "cost = 0");
    }

    private static void promise11() {
        calls.run("11 five repairs", "thing 9 9 = 0", "thing 9 9 = 1", "repair 0 1 0 0 = 0", "repair 1 24 3 1000 = 1",
                "repair 0 1 0 0 = 2", "repair 0 1 0 0 = 3", "repair 0 1 0 0 = 4", "repair 0 1 0 0 = meaning",
                "repair 0 0 0 0 = range", "repair 2 1 0 0 = index");
        calls.run("11 range", "thing 9 9 = 0", "repair 0 0 0 0 = range", "repair 0 25 0 0 = range", "repair 0 1 -1 0 = range",
                "repair 0 1 4 0 = range", "repair 0 1 0 -1 = range", "repair 0 1 0 1001 = range",
                "repair 0 -2147483648 0 0 = range", "repair 0 1 0 0 = 0");
        calls.run("11 index ahead of range", "repair 0 0 0 0 = index", "thing 9 9 = 0", "repair -1 1 0 0 = index",
                "repair 1 25 4 1001 = index");
        calls.run("11 no plan then", "thing 9 9 = 0", "plan = 0", "repair 0 1 0 7 = 0", "cost = turn", "at 0 0 = turn",
                "plan = 0", "cost = 2176", "repair 0 0 0 0 = range", "repair 1 1 0 0 = index", "cost = 2176");
        calls.run("11 refused, the plan stays", "thing 9 9 = 0", "repair 0 1 0 0 = 0", "repair 0 1 0 0 = 1",
                "repair 0 1 0 0 = 2", "repair 0 1 0 0 = 3", "repair 0 1 0 0 = 4", "plan = 0", "repair 0 1 0 0 = meaning",
                "cost = 5000");
    }

    private static void promise12() {
        calls.run("12 range", "rules -1 0 = range", "rules 25 0 = range", "rules 0 -1 = range", "rules 0 1000001 = range",
                "rules 2147483647 0 = range", "rules 0 0 = ok", "rules 24 1000000 = ok");
        calls.run("12 no plan then", "plan = 0", "rules 25 0 = range", "cost = 0", "rules 8 1000 = ok", "cost = turn");
        WearHours x = calls.run("12 rest and failing", WHOLE_WEEK);
        calls.more(x, "12 rest and failing", "thing 5 5 = 1", "repair 0 2 0 1 = 0", "repair 1 2 0 1 = 1",
                "repair 1 2 1 3 = 2", "rules 0 0 = ok", "plan = 2", "at 1 0 = 2", "cost = 506",
                "rules 24 0 = ok", "plan = 2", "at 1 0 = 26", "cost = 530",
                "rules 24 1000000 = ok", "plan = 2", "cost = 1000530",
                "rules 25 1 = range", "rules 1 -1 = range", "at 1 0 = 26", "cost = 1000530");
    }

    private static void promise13Placement() {
        calls.run("13 the gap holds it just so", "thing 5 5 = 0", "gap 10 16 = 1", "person 0 0 168 = 0",
                "repair 0 6 0 1 = 0", "plan = 1", "at 0 0 = 10");
        calls.run("13 the gap is an hour short", "thing 5 5 = 0", "gap 10 15 = 1", "person 0 0 168 = 0",
                "repair 0 6 0 1 = 0", "plan = 0", "at 0 0 = -1");
        calls.run("13 the person is there just so long", "thing 5 5 = 0", "gap 0 168 = 1", "person 0 10 16 = 0",
                "repair 0 6 0 1 = 0", "plan = 1", "at 0 0 = 10");
        calls.run("13 the person leaves an hour early", "thing 5 5 = 0", "gap 0 168 = 1", "person 0 10 15 = 0",
                "repair 0 6 0 1 = 0", "plan = 0");
        calls.run("13 to the end of the week", "thing 5 5 = 0", "gap 144 168 = 1", "person 0 0 168 = 0",
                "repair 0 24 0 1 = 0", "plan = 1", "at 0 0 = 144", "cost = 144");
        calls.run("13 neighbouring gaps are two", "thing 5 5 = 0", "gap 0 5 = 1", "gap 5 10 = 2", "person 0 0 168 = 0",
                "repair 0 6 0 1 = 0", "plan = 0");
        calls.run("13 of its skill", "thing 5 5 = 0", "gap 0 168 = 1", "person 1 0 168 = 0", "person 2 9 168 = 1",
                "repair 0 6 2 1 = 0", "plan = 1", "at 0 1 = 1", "at 0 0 = 9");
        calls.run("13 the person rests, another does not wait", "thing 5 5 = 0", "thing 5 5 = 1", "gap 0 168 = 1",
                "person 0 0 168 = 0", "person 0 4 168 = 1", "repair 0 3 0 9 = 0", "repair 1 3 0 9 = 1", "plan = 2",
                "at 0 0 = 0", "at 0 1 = 0", "at 1 0 = 4", "at 1 1 = 1");
        calls.run("13 a thing is in one repair at a time", "thing 5 5 = 0", "gap 0 168 = 1", "person 0 0 168 = 0",
                "person 0 0 168 = 1", "repair 0 3 0 9 = 0", "repair 0 3 0 9 = 1", "plan = 2", "at 1 0 = 3", "at 1 1 = 1");
        calls.run("13 no hour ahead of an earlier repair", "thing 5 5 = 0", "gap 0 10 = 1", "gap 50 60 = 2",
                "person 0 40 168 = 0", "person 1 0 168 = 1", "repair 0 3 0 1 = 0", "repair 0 3 1 1 = 1", "plan = 2",
                "at 0 0 = 50", "at 1 0 = 53", "at 1 2 = 1");
        calls.run("13 no plan without gaps or persons", "thing 5 5 = 0", "repair 0 1 0 0 = 0", "plan = 0", "gap 0 9 = 1",
                "plan = 0", "person 0 0 9 = 0", "plan = 1");
        calls.run("13 again", "thing 5 5 = 0", "gap 3 9 = 1", "person 0 0 9 = 0", "repair 0 1 0 1 = 0", "plan = 1",
                "plan = 1", "at 0 0 = 3", "cost = 3");
    }

    private static void promise13Order() {
        calls.run("13 the lowest gap first", "thing 5 5 = 0", "gap 50 60 = 1", "gap 10 20 = 2", "person 0 0 168 = 0",
                "repair 0 6 0 0 = 0", "plan = 1", "at 0 0 = 50", "at 0 2 = 0", "cost = 0");
        calls.run("13 the lowest person next", "thing 5 5 = 0", "gap 10 20 = 1", "gap 10 20 = 2", "person 1 0 168 = 0",
                "person 0 0 168 = 1", "person 0 0 168 = 2", "repair 0 6 0 5 = 0", "plan = 1", "at 0 1 = 1", "at 0 2 = 0");
        calls.run("13 gaps ahead of persons", "thing 5 5 = 0", "gap 20 30 = 1", "gap 10 30 = 2", "person 0 24 168 = 0",
                "person 0 20 168 = 1", "repair 0 5 0 0 = 0", "plan = 1", "at 0 2 = 0", "at 0 1 = 0", "at 0 0 = 24");
        calls.run("13 placed ahead of not placed, at no cost", "thing 5 5 = 0", "rules 8 0 = ok", "gap 10 20 = 1",
                "person 0 0 168 = 0", "repair 0 6 0 0 = 0", "plan = 1", "cost = 0");
        calls.run("13 the first repair is placed of two alike", "thing 5 5 = 0", "thing 5 5 = 1", "gap 10 20 = 1",
                "person 0 0 168 = 0", "repair 0 6 0 5 = 0", "repair 1 6 0 5 = 1", "plan = 1", "at 0 0 = 10",
                "at 1 0 = -1", "cost = 1890");
        calls.run("13 earlier repairs choose first", "thing 5 5 = 0", "thing 5 5 = 1", "gap 0 9 = 1", "gap 0 9 = 2",
                "person 0 0 168 = 0", "person 0 0 168 = 1", "repair 0 6 0 5 = 0", "repair 1 6 0 5 = 1", "plan = 2",
                "at 0 1 = 0", "at 0 2 = 0", "at 1 1 = 1", "at 1 2 = 0");
    }

    private static void promise13Choice() {
        calls.run("13 the dear one goes ahead", "thing 5 5 = 0", "thing 5 5 = 1", "gap 0 8 = 1", "gap 100 108 = 2",
                "person 0 0 168 = 0", "repair 0 8 0 1 = 0", "repair 1 8 0 50 = 1", "plan = 1", "at 0 0 = -1",
                "at 1 0 = 0", "cost = 1168");
        calls.run("13 failing weighs more than waiting", "thing 5 5 = 0", "thing 5 5 = 1", "gap 0 8 = 1", "gap 100 108 = 2",
                "person 0 0 168 = 0", "repair 0 8 0 1 = 0", "repair 1 8 0 50 = 1", "rules 8 1000000 = ok", "plan = 2",
                "at 0 0 = 0", "at 1 0 = 100", "cost = 5000");
        calls.run("13 the later person leaves the other free", "thing 5 5 = 0", "thing 5 5 = 1", "gap 0 20 = 1",
                "person 0 0 20 = 0", "person 0 1 9 = 1", "repair 0 8 0 1 = 0", "repair 1 15 0 1 = 1", "plan = 2",
                "at 0 0 = 1", "at 0 1 = 1", "at 1 0 = 0", "at 1 1 = 0", "cost = 1");
        calls.run("13 a dear second repair takes the only person", "thing 5 5 = 0", "thing 5 5 = 1", "gap 0 24 = 1",
                "person 0 0 168 = 0", "repair 0 10 0 1 = 0", "repair 1 20 0 1000 = 1", "plan = 1", "at 0 0 = -1",
                "at 1 0 = 0", "cost = 1168");
    }

    private static void promise14() {
        calls.run("14 hour, person, gap", "thing 5 5 = 0", "gap 0 1 = 1", "gap 30 40 = 2", "person 1 0 168 = 0",
                "person 0 32 168 = 1", "repair 0 6 0 1 = 0", "repair 0 9 0 1 = 1", "at 0 0 = turn", "plan = 1",
                "at 0 0 = 32", "at 0 1 = 1", "at 0 2 = 1", "at 1 0 = -1", "at 1 1 = -1", "at 1 2 = -1");
        calls.run("14 index ahead of turn", "at 0 0 = index", "thing 5 5 = 0", "repair 0 1 0 0 = 0", "at 0 0 = turn",
                "at 1 0 = index", "at -1 0 = index", "at 0 3 = index", "at 0 -1 = index", "plan = 0", "at 0 3 = index",
                "at 1 0 = index", "at 0 -2147483648 = index", "at 0 0 = -1", "done = 0", "at 0 0 = index");
    }

    private static void promise15() {
        calls.run("15 turn", "cost = turn", "plan = 0", "cost = 0", "cost = 0", "done = 0", "cost = turn");
        calls.run("15 the greatest", "thing 5 5 = 0", "rules 0 1000000 = ok", "repair 0 1 0 1000 = 0", "repair 0 1 0 1000 = 1",
                "repair 0 1 0 1000 = 2", "repair 0 1 0 1000 = 3", "repair 0 1 0 1000 = 4", "plan = 0", "cost = 5840000");
        calls.run("15 placed and not", "thing 5 5 = 0", "gap 7 17 = 1", "person 0 0 168 = 0", "repair 0 5 0 10 = 0",
                "repair 0 5 1 3 = 1", "plan = 1", "cost = 1574");
    }

    private static void promise16() {
        calls.run("16 turn", "done = turn", "plan = 0", "done = 0", "done = turn");
        WearHours x = calls.run("16 with a spare", WHOLE_WEEK);
        calls.more(x, "16 with a spare", "use 0 5 = 5", "told 0 1 = 1", "spare 0 2 = 2", "repair 0 4 0 1 = 0", "plan = 1",
                "done = 1", "told 0 0 = 0", "told 0 1 = 0", "told 0 2 = 5", "history 0 0 = -1", "history 0 1 = 5",
                "spare 0 0 = 1", "at 0 0 = index", "cost = turn", "done = turn", "plan = 0", "cost = 0",
                "repair 0 4 0 1 = 0", "at 0 0 = turn", "plan = 1", "at 0 0 = 0", "done = 1", "spare 0 0 = 0");
        x = calls.run("16 without one, not done though placed", WHOLE_WEEK);
        calls.more(x, "16 without one, not done though placed", "use 0 3 = 3", "spare 1 9 = 9", "repair 0 4 0 1 = 0",
                "plan = 1", "done = 0", "told 0 0 = 3", "history 0 0 = 3", "spare 0 0 = 0", "spare 1 0 = 9", "at 0 0 = index");
        x = calls.run("16 spares go by numbers", WHOLE_WEEK);
        calls.more(x, "16 spares go by numbers", "thing 5 5 = 1", "use 0 1 = 1", "use 1 2 = 2", "spare 0 1 = 1",
                "repair 1 4 0 1 = 0", "repair 0 4 0 1 = 1", "plan = 2", "done = 1", "told 1 0 = 0", "told 0 0 = 1");
        x = calls.run("16 not placed, no spare taken", WHOLE_WEEK);
        calls.more(x, "16 not placed, no spare taken", "use 0 1 = 1", "spare 1 1 = 1", "repair 0 4 1 1 = 0", "plan = 0",
                "done = 0", "told 0 0 = 1", "history 0 0 = 1", "spare 1 0 = 1", "at 0 0 = index");
        x = calls.run("16 one thing twice", WHOLE_WEEK);
        calls.more(x, "16 one thing twice", "use 0 1 = 1", "spare 0 3 = 3", "repair 0 4 0 1 = 0", "repair 0 4 0 1 = 1",
                "plan = 2", "done = 2", "history 0 0 = -1", "history 0 1 = -1", "history 0 2 = 1", "spare 0 0 = 1");
        x = calls.run("16 the permit stays closed", WHOLE_WEEK);
        calls.more(x, "16 the permit stays closed", "permit 0 false = ok", "spare 0 1 = 1", "repair 0 4 0 1 = 0", "plan = 1",
                "done = 1", "told 0 1 = 1", "permit 0 false = meaning");
        x = calls.run("16 gaps, persons, rules stay", WHOLE_WEEK);
        calls.more(x, "16 gaps, persons, rules stay", "rules 3 70 = ok", "plan = 0", "done = 0", "gap 0 1 = 2",
                "person 1 0 1 = 1", "repair 0 4 0 1 = 0", "repair 0 4 0 1 = 1", "repair 0 4 3 0 = 2", "plan = 2",
                "at 1 0 = 7", "cost = 77");
    }

    private static void promise17() {
        calls.run("17 kinds apart", "spare 0 1 = 1", "spare 3 100 = 100", "spare 0 0 = 1", "spare 3 7 = 107", "spare 1 0 = 0");
        WearHours x = new WearHours();
        for (int i = 1; i <= 9; i++) {
            calls.more(x, "17 up to 1000", "spare 2 100 = " + 100 * i);
        }
        calls.more(x, "17 up to 1000", "spare 2 99 = 999", "spare 2 2 = meaning", "spare 2 1 = 1000", "spare 2 0 = 1000",
                "spare 2 1 = meaning", "spare 2 101 = range", "spare 2 -1 = range", "spare 1 100 = 100");
        calls.run("17 wrong inputs", "spare 4 0 = index", "spare -1 0 = index", "spare 4 101 = index", "spare 0 101 = range",
                "spare 0 -1 = range", "spare 0 2147483647 = range", "spare 0 -2147483648 = range", "spare 0 0 = 0");
        calls.run("17 leaves the plan", "plan = 0", "spare 0 1 = 1", "cost = 0");
    }
}
