import java.util.Random;

/** Runs of 512 calls, made by a fixed seed, whose answers must be those of the plain model. */
public final class ModelTest {
    private static final int RUNS = 150;
    private static final int CALLS = 512;

    private static final Random random = new Random(20261115);
    private static final Calls calls = new Calls();

    public static void main(String[] args) {
        for (int i = 0; i < RUNS && calls.wrong() < 20; i++) {
            run(i, i % 3);
        }
        for (int i = 0; i < 1500 && calls.wrong() < 20; i++) {
            planFullWeek(i);
        }
        for (int i = 0; i < 3 && calls.wrong() < 20; i++) {
            planFullestWeek(i);
        }
        calls.end();
    }

    // Skills of one kind make the search hard; all four of them make it ordinary.
    private static void run(int number, int skills) {
        WearHours x = new WearHours();
        Model model = new Model();
        for (int i = 0; i < CALLS; i++) {
            String call = anyCall(2 + skills);
            calls.due("run " + number + ", call " + i, call, Calls.answer(x, call), model.answer(call));
        }
    }

    private static void planFullWeek(int number) {
        WearHours x = new WearHours();
        Model model = new Model();
        int skills = 1 + random.nextInt(3);
        String name = "week " + number;
        same(name, x, model, "rules " + random.nextInt(25) + " " + random.nextInt(random.nextBoolean() ? 2 : 20000));
        for (int i = 0; i < 3; i++) same(name, x, model, "thing 5 5");
        int gapCount = 1 + random.nextInt(skills == 1 ? 4 : 6);
        for (int i = 0; i < gapCount; i++) same(name, x, model, "gap " + span());
        for (int i = 0; i < 4; i++) same(name, x, model, "person " + random.nextInt(skills) + " " + span());
        int things = 1 + random.nextInt(3);
        int waiting = random.nextInt(4) == 0 ? 2 : 1001;
        for (int i = 0; i < 5; i++) {
            same(name, x, model, "repair " + random.nextInt(things) + " " + (1 + random.nextInt(24)) + " "
                    + random.nextInt(skills) + " " + random.nextInt(waiting));
        }
        same(name, x, model, "plan");
        same(name, x, model, "cost");
        for (int i = 0; i < 15; i++) same(name, x, model, "at " + i / 3 + " " + i % 3);
    }

    // Each repair has all of 24 placements: as many plans as there can be.
    private static void planFullestWeek(int number) {
        WearHours x = new WearHours();
        Model model = new Model();
        String name = "fullest week " + number;
        same(name, x, model, "rules 0 " + random.nextInt(3000));
        for (int i = 0; i < 8; i++) same(name, x, model, "thing 5 5");
        for (int i = 0; i < 6; i++) same(name, x, model, "gap " + random.nextInt(60) + " " + (108 + random.nextInt(61)));
        for (int i = 0; i < 4; i++) same(name, x, model, "person 2 " + random.nextInt(40) + " 168");
        for (int i = 0; i < 5; i++) {
            same(name, x, model, "repair " + random.nextInt(8) + " " + (1 + random.nextInt(6)) + " 2 " + random.nextInt(1001));
        }
        same(name, x, model, "plan");
        same(name, x, model, "cost");
        for (int i = 0; i < 15; i++) same(name, x, model, "at " + i / 3 + " " + i % 3);
    }

    private static void same(String name, WearHours x, Model model, String call) {
        calls.due(name, call, Calls.answer(x, call), model.answer(call));
    }

    private static String span() {
        int from = random.nextInt(150);
        return from + " " + (from + 1 + random.nextInt(168 - from));
    }

    private static String anyCall(int skills) {
        switch (random.nextInt(20)) {
            case 0: return "seed " + (random.nextBoolean() ? random.nextLong() : random.nextInt(5) - 2);
            case 1: return "thing " + units() + " " + units();
            case 2: case 3: return "use " + upTo(8) + " " + units();
            case 4: return "told " + upTo(8) + " " + upTo(3);
            case 5: return "left " + upTo(8) + " " + (random.nextBoolean() ? upTo(1001) : random.nextInt(1001));
            case 6: return "permit " + upTo(8) + " " + random.nextBoolean();
            case 7: case 8: return "history " + upTo(8) + " " + upTo(6);
            case 9: return random.nextInt(6) == 0 ? "gap " + (random.nextInt(172) - 2) + " " + (random.nextInt(172) - 2) : "gap " + span();
            case 10: return "person " + upTo(skills) + " " + span();
            case 11: case 12: case 13: return "repair " + upTo(8) + " " + (1 + upTo(24)) + " " + upTo(skills) + " " + upTo(1001);
            case 14: return "rules " + upTo(25) + " " + (random.nextBoolean() ? upTo(1000001) : upTo(2000));
            case 15: return random.nextInt(3) == 0 ? "done" : "plan";
            case 16: return "plan";
            case 17: return "at " + upTo(5) + " " + upTo(3);
            case 18: return "cost";
            default: return "spare " + upTo(4) + " " + (random.nextInt(3) == 0 ? upTo(101) : upTo(3));
        }
    }

    private static int units() {
        return random.nextInt(4) == 0 ? 1 + upTo(1000000) : 1 + upTo(60);
    }

    // Mostly from 0 to below n; at times just outside of that, or far outside.
    private static int upTo(int n) {
        switch (random.nextInt(40)) {
            case 0: return -1;
            case 1: return n;
            case 2: return n - 1;
            case 3: return random.nextInt();
            default: return random.nextInt(n);
        }
    }
}
