/**
 * Wear of things, and the repairs of one week put into gaps of production.
 *
 * Each call of the face looks at its arguments in the document's order of
 * refusals (index, turn, range, meaning) before it changes anything, so that a
 * refused call leaves everything as it was, the plan too.
 */
public final class WearHours {
    private static final int MOST_THINGS = 8;
    private static final int MOST_UNITS = 1_000_000;
    private static final int MOST_DRAWS = 1_000;
    private static final int KINDS = 4;
    private static final int MOST_SPARES_AT_ONCE = 100;
    private static final int MOST_SPARES = 1_000;
    private static final int MOST_REPAIR_HOURS = 24;
    private static final int MOST_WAITING = 1_000;
    private static final int MOST_REST = 24;
    private static final int MOST_FAILING = 1_000_000;
    private static final int WHATS = 3;

    private long seedNow;
    private final Thing[] things;
    private int thingCount;
    private final int[] spares;
    private final Week week;
    private final Planner planner;

    public WearHours() {
        seedNow = 1;
        things = new Thing[MOST_THINGS];
        for (int i = 0; i < MOST_THINGS; i++) {
            things[i] = new Thing();
        }
        spares = new int[KINDS];
        week = new Week();
        planner = new Planner(week);
    }

    public void seed(long v) {
        seedNow = v;
    }

    public int thing(int life, int bound) throws IllegalArgumentException, UnsupportedOperationException {
        if (!isWithin(life, 1, MOST_UNITS) || !isWithin(bound, 1, MOST_UNITS)) {
            throw new IllegalArgumentException("life and bound are 1 to 1000000");
        }
        if (thingCount >= MOST_THINGS) {
            throw new UnsupportedOperationException("there are 8 things");
        }
        things[thingCount].begin(life, bound);
        thingCount++;
        return thingCount - 1;
    }

    public int use(int thing, int units)
            throws IndexOutOfBoundsException, IllegalStateException, IllegalArgumentException {
        Thing used = knownThing(thing);
        if (used.isBarred()) {
            throw new IllegalStateException("the thing is barred");
        }
        if (!isWithin(units, 1, MOST_UNITS)) {
            throw new IllegalArgumentException("units are 1 to 1000000");
        }
        used.wear(units);
        return used.sum;
    }

    public int told(int thing, int what) throws IndexOutOfBoundsException {
        Thing asked = knownThing(thing);
        checkWhat(what);
        if (what == 0) {
            return asked.sum;
        }
        if (what == 1) {
            return asked.isBarred() ? 1 : 0;
        }
        return asked.unitsToBound();
    }

    public int left(int thing, int n) throws IndexOutOfBoundsException, IllegalArgumentException {
        Thing asked = knownThing(thing);
        if (!isWithin(n, 0, MOST_DRAWS)) {
            throw new IllegalArgumentException("a draw is 0 to 1000");
        }
        long number = drawnNumber(1_001L * thing + n + 1);
        int percent = 50 + (int) (number % 101);
        return Math.max(0, asked.life * percent / 100 - asked.sum);
    }

    public void permit(int thing, boolean open) throws IndexOutOfBoundsException, UnsupportedOperationException {
        Thing asked = knownThing(thing);
        if (asked.open == open) {
            throw new UnsupportedOperationException("the permit is so already");
        }
        asked.setPermit(open);
    }

    public int history(int thing, int k) throws IndexOutOfBoundsException {
        Thing asked = knownThing(thing);
        if (k < 0) {
            throw new IndexOutOfBoundsException("a change's number is 0 or more");
        }
        return asked.change(k);
    }

    public int gap(int from, int to) throws IllegalArgumentException, UnsupportedOperationException {
        checkHours(from, to);
        if (week.gapCount >= Week.MOST_GAPS) {
            throw new UnsupportedOperationException("there are 6 gaps");
        }
        week.addGap(from, to);
        planner.forget();
        return week.gapCount;
    }

    public int person(int skill, int from, int to) throws IllegalArgumentException, UnsupportedOperationException {
        checkSkill(skill);
        checkHours(from, to);
        if (week.personCount >= Week.MOST_PERSONS) {
            throw new UnsupportedOperationException("there are 4 persons");
        }
        week.addPerson(skill, from, to);
        planner.forget();
        return week.personCount - 1;
    }

    public int repair(int thing, int hours, int skill, int waiting)
            throws IndexOutOfBoundsException, IllegalArgumentException, UnsupportedOperationException {
        knownThing(thing);
        checkSkill(skill);
        if (!isWithin(hours, 1, MOST_REPAIR_HOURS) || !isWithin(waiting, 0, MOST_WAITING)) {
            throw new IllegalArgumentException("hours are 1 to 24, waiting is 0 to 1000");
        }
        if (week.repairCount >= Week.MOST_REPAIRS) {
            throw new UnsupportedOperationException("there are 5 repairs");
        }
        week.addRepair(thing, hours, skill, waiting);
        planner.forget();
        return week.repairCount - 1;
    }

    public void rules(int rest, int failing) throws IllegalArgumentException {
        if (!isWithin(rest, 0, MOST_REST) || !isWithin(failing, 0, MOST_FAILING)) {
            throw new IllegalArgumentException("rest is 0 to 24, failing is 0 to 1000000");
        }
        week.rest = rest;
        week.failing = failing;
        planner.forget();
    }

    public int plan() {
        // All that the plan depends on makes the planner forget it, so a plan that stands is the best still.
        if (!planner.hasPlan) {
            planner.makeBest();
        }
        return planner.placedCount;
    }

    public int at(int repair, int what) throws IndexOutOfBoundsException, IllegalStateException {
        if (repair < 0 || repair >= week.repairCount) {
            throw new IndexOutOfBoundsException("there is no such repair");
        }
        checkWhat(what);
        checkPlan();
        Repair asked = week.repairs[repair];
        if (what == 0) {
            return asked.hour;
        }
        return what == 1 ? asked.person : asked.gap;
    }

    public int cost() throws IllegalStateException {
        checkPlan();
        return planner.planCost;
    }

    public int done() throws IllegalStateException {
        checkPlan();
        int count = 0;
        for (int i = 0; i < week.repairCount; i++) {
            Repair next = week.repairs[i];
            if (next.isPlaced() && spares[next.skill] > 0) {
                spares[next.skill]--;
                things[next.thing].mend();
                count++;
            }
        }
        week.repairCount = 0;
        planner.forget();
        return count;
    }

    public int spare(int kind, int n)
            throws IndexOutOfBoundsException, IllegalArgumentException, UnsupportedOperationException {
        if (kind < 0 || kind >= KINDS) {
            throw new IndexOutOfBoundsException("a kind is 0 to 3");
        }
        if (!isWithin(n, 0, MOST_SPARES_AT_ONCE)) {
            throw new IllegalArgumentException("spares are 0 to 100 at once");
        }
        if (spares[kind] + n > MOST_SPARES) {
            throw new UnsupportedOperationException("a kind has at most 1000 spares");
        }
        spares[kind] += n;
        return spares[kind];
    }

    private static boolean isWithin(int value, int least, int most) {
        return value >= least && value <= most;
    }

    private Thing knownThing(int number) {
        if (number < 0 || number >= thingCount) {
            throw new IndexOutOfBoundsException("there is no such thing");
        }
        return things[number];
    }

    private static void checkWhat(int what) {
        if (what < 0 || what >= WHATS) {
            throw new IndexOutOfBoundsException("what is 0 to 2");
        }
    }

    private static void checkHours(int from, int to) {
        if (from < 0 || to > Week.HOURS || to <= from) {
            throw new IllegalArgumentException("hours are 0 to 168, the second behind the first");
        }
    }

    private static void checkSkill(int skill) {
        // Skills are the kinds of spares, so that done() may take a skill as a kind.
        if (skill < 0 || skill >= KINDS) {
            throw new IllegalArgumentException("a skill is 0 to 3");
        }
    }

    private void checkPlan() {
        if (!planner.hasPlan) {
            throw new IllegalStateException("there is no plan");
        }
    }

    private long drawnNumber(long place) {
        long z = seedNow + place * 0x9E3779B97F4A7C15L;
        z = (z ^ z >>> 30) * 0xBF58476D1CE4E5B9L;
        z = (z ^ z >>> 27) * 0x94D049BB133111EBL;
        z = z ^ z >>> 31;
        return z & 0x7FFFFFFFFFFFFFFFL;
    }

    private static final class Thing {
        private static final int KEPT_CHANGES = 5;
        private static final int REPAIRED = -1;
        private static final int CLOSED = -2;
        private static final int OPENED = -3;

        private int life;
        private int bound;
        private int sum;
        private boolean open;
        // The latest first. No change is 0, so 0 stands where there is none.
        private final int[] changes;

        Thing() {
            changes = new int[KEPT_CHANGES];
        }

        void begin(int itsLife, int itsBound) {
            life = itsLife;
            bound = itsBound;
            open = true;
        }

        boolean isBarred() {
            return !open || sum >= bound;
        }

        int unitsToBound() {
            return Math.max(0, bound - sum);
        }

        void wear(int units) {
            // A thing below its bound is used by a million units at most, so the sum stays below two million.
            sum += units;
            keep(units);
        }

        void mend() {
            sum = 0;
            keep(REPAIRED);
        }

        void setPermit(boolean nowOpen) {
            open = nowOpen;
            keep(nowOpen ? OPENED : CLOSED);
        }

        int change(int k) {
            return k >= 0 && k < KEPT_CHANGES ? changes[k] : 0;
        }

        private void keep(int change) {
            for (int i = KEPT_CHANGES - 1; i > 0; i--) {
                changes[i] = changes[i - 1];
            }
            changes[0] = change;
        }
    }

    private static final class Gap {
        private int from;
        private int to;
    }

    private static final class Person {
        private int skill;
        private int from;
        private int to;
    }

    private static final class Repair {
        private static final int NOT_PLACED = -1;

        private int thing;
        private int hours;
        private int skill;
        private int waiting;
        private int hour;
        private int person;
        private int gap;

        boolean isPlaced() {
            return hour != NOT_PLACED;
        }

        void place(int itsHour, int itsPerson, int itsGap) {
            hour = itsHour;
            person = itsPerson;
            gap = itsGap;
        }

        void unplace() {
            place(NOT_PLACED, NOT_PLACED, NOT_PLACED);
        }
    }

    /** What a plan is made from. Its rows are made once, as repairs come and go. */
    private static final class Week {
        private static final int HOURS = 168;
        private static final int MOST_GAPS = 6;
        private static final int MOST_PERSONS = 4;
        private static final int MOST_REPAIRS = 5;

        private final Gap[] gaps;
        private int gapCount;
        private final Person[] persons;
        private int personCount;
        private final Repair[] repairs;
        private int repairCount;
        private int rest;
        private int failing;

        Week() {
            gaps = new Gap[MOST_GAPS];
            for (int i = 0; i < MOST_GAPS; i++) {
                gaps[i] = new Gap();
            }
            persons = new Person[MOST_PERSONS];
            for (int i = 0; i < MOST_PERSONS; i++) {
                persons[i] = new Person();
            }
            repairs = new Repair[MOST_REPAIRS];
            for (int i = 0; i < MOST_REPAIRS; i++) {
                repairs[i] = new Repair();
            }
            rest = 8;
            failing = 1_000;
        }

        void addGap(int from, int to) {
            if (gapCount < MOST_GAPS) {
                Gap added = gaps[gapCount];
                added.from = from;
                added.to = to;
                gapCount++;
            }
        }

        void addPerson(int skill, int from, int to) {
            if (personCount < MOST_PERSONS) {
                Person added = persons[personCount];
                added.skill = skill;
                added.from = from;
                added.to = to;
                personCount++;
            }
        }

        void addRepair(int thing, int hours, int skill, int waiting) {
            if (repairCount < MOST_REPAIRS) {
                Repair added = repairs[repairCount];
                added.thing = thing;
                added.hours = hours;
                added.skill = skill;
                added.waiting = waiting;
                added.unplace();
                repairCount++;
            }
        }

        int costUnplaced(Repair repair) {
            return repair.waiting * HOURS + failing;
        }
    }

    /**
     * Finds the best plan in two steps: the least cost, then the first plan that has it.
     *
     * For the least cost it is enough to try each person in the gap where the repair begins
     * first: an earlier beginning costs no more, and leaves the person and the thing free no
     * later, so that whatever can follow a later beginning can follow the earlier one as well.
     * That leaves 5 ways for a repair where there are 25.
     */
    private static final class Planner {
        private static final int NOWHERE = -1;
        // Five repairs that are not placed cost 5,840,000 at the most.
        private static final int NO_LIMIT = 1_000_000_000;

        private final Week week;
        // The hours from which persons have rested and things are whole, as far as repairs are placed by now.
        private final int[] personFree;
        private final int[] thingFree;
        // What the repairs from a number on cost at the least, each as if it were alone in the week.
        private final int[] floors;
        private boolean hasPlan;
        private int planCost;
        private int placedCount;

        Planner(Week itsWeek) {
            week = itsWeek;
            personFree = new int[Week.MOST_PERSONS];
            thingFree = new int[MOST_THINGS];
            floors = new int[Week.MOST_REPAIRS + 1];
        }

        void forget() {
            hasPlan = false;
        }

        void makeBest() {
            freeAll();
            sumFloors();
            planCost = leastCost(0, NO_LIMIT);
            placedCount = 0;
            int budget = planCost;
            for (int i = 0; i < week.repairCount; i++) {
                budget -= settle(i, budget);
                if (week.repairs[i].isPlaced()) {
                    placedCount++;
                }
            }
            hasPlan = true;
        }

        private void freeAll() {
            for (int i = 0; i < personFree.length; i++) {
                personFree[i] = 0;
            }
            for (int i = 0; i < thingFree.length; i++) {
                thingFree[i] = 0;
            }
        }

        private void sumFloors() {
            floors[week.repairCount] = 0;
            for (int i = week.repairCount - 1; i >= 0; i--) {
                Repair repair = week.repairs[i];
                int least = week.costUnplaced(repair);
                for (int p = 0; p < week.personCount; p++) {
                    int hour = firstBeginning(repair, p);
                    if (hour != NOWHERE) {
                        least = Math.min(least, repair.waiting * hour);
                    }
                }
                floors[i] = floors[i + 1] + least;
            }
        }

        /** Gives a repair the first way that keeps the budget for it and all behind it; answers what it costs. */
        private int settle(int number, int budget) {
            Repair repair = week.repairs[number];
            repair.unplace();
            for (int g = 0; g < week.gapCount; g++) {
                for (int p = 0; p < week.personCount; p++) {
                    int hour = beginning(repair, g, p);
                    if (hour != NOWHERE && costBy(number, p, hour, budget + 1) <= budget) {
                        occupy(repair, p, hour);
                        repair.place(hour, p, g);
                        return repair.waiting * hour;
                    }
                }
            }
            return week.costUnplaced(repair);
        }

        /** The least cost of the repairs from this one on; the limit (above 0), when none is below it. */
        private int leastCost(int number, int limit) {
            if (number >= week.repairCount) {
                return 0;
            }
            Repair repair = week.repairs[number];
            int least = limit;
            for (int p = 0; p < week.personCount; p++) {
                int hour = firstBeginning(repair, p);
                if (hour != NOWHERE) {
                    least = costBy(number, p, hour, least);
                }
            }
            int unplaced = week.costUnplaced(repair);
            if (unplaced + floors[number + 1] < least) {
                least = unplaced + leastCost(number + 1, least - unplaced);
            }
            return least;
        }

        /** Like leastCost, with this repair done by the person from that hour on. */
        private int costBy(int number, int person, int hour, int limit) {
            Repair repair = week.repairs[number];
            int own = repair.waiting * hour;
            if (own + floors[number + 1] >= limit) {
                return limit;
            }
            int personBefore = personFree[person];
            int thingBefore = thingFree[repair.thing];
            occupy(repair, person, hour);
            int least = own + leastCost(number + 1, limit - own);
            personFree[person] = personBefore;
            thingFree[repair.thing] = thingBefore;
            return least;
        }

        private void occupy(Repair repair, int person, int hour) {
            int end = hour + repair.hours;
            thingFree[repair.thing] = end;
            personFree[person] = end + week.rest;
        }

        private int firstBeginning(Repair repair, int person) {
            int first = NOWHERE;
            if (week.persons[person].skill != repair.skill) {
                return first;
            }
            for (int g = 0; g < week.gapCount; g++) {
                int hour = beginning(repair, g, person);
                if (hour != NOWHERE && (first == NOWHERE || hour < first)) {
                    first = hour;
                }
            }
            return first;
        }

        private int beginning(Repair repair, int gapNumber, int personNumber) {
            Gap gap = week.gaps[gapNumber];
            Person person = week.persons[personNumber];
            if (person.skill != repair.skill) {
                return NOWHERE;
            }
            int present = Math.max(gap.from, person.from);
            int free = Math.max(personFree[personNumber], thingFree[repair.thing]);
            int hour = Math.max(present, free);
            return hour + repair.hours <= Math.min(gap.to, person.to) ? hour : NOWHERE;
        }
    }
}
