import java.util.ArrayList;
import java.util.NoSuchElementException;

/** Tasks given to people: who may do what, when each would begin, and what has been done. */
public final class TaskShare {
    private static final int NONE = -1;
    private static final int LAST_TIME = 100000;
    private static final int SKILLS = 8;
    private static final int ZONES = 4;
    private static final int LONGEST_WAY = 1000;
    private static final int LONGEST_TASK = 5000;
    private static final int MOST_PERSONS = 4;
    private static final int MOST_TASKS = 16;
    private static final int MOST_EXACT = 5;
    private static final int LATENESS_OF_NOTHING = 100000;

    private static final int OPEN = 0;
    private static final int BEGUN = 1;
    private static final int DONE = 2;

    private final ArrayList<Person> persons = new ArrayList<>();
    private final ArrayList<Task> tasks = new ArrayList<>();
    private final ArrayList<Task> openByDue = new ArrayList<>();
    private final Ways ways = new Ways();
    private final ExactPlanner exactPlanner = new ExactPlanner();
    private int now;
    private boolean lastPlanWasExact;

    public TaskShare() {
    }

    public int person(int skills, int from, int to, int zone)
            throws IllegalArgumentException, UnsupportedOperationException {
        needWithin(skills, 0, (1 << SKILLS) - 1);
        needWithin(from, 0, LAST_TIME);
        needWithin(to, from + 1, LAST_TIME);
        needWithin(zone, 0, ZONES - 1);
        needRoom(persons.size(), MOST_PERSONS);
        Person added = new Person(persons.size(), skills, from, to, zone);
        persons.add(added);
        return added.number;
    }

    public void rest(int person, int from, int to) throws NoSuchElementException, IllegalArgumentException {
        Person who = personOf(person);
        needWithin(from, who.from, who.to);
        needWithin(to, from, who.to);
        // An empty span is kept as 0..0: no task begins before 0, so it puts none off.
        who.restFrom = from == to ? 0 : from;
        who.restTo = from == to ? 0 : to;
    }

    public int train(int person, int skill)
            throws NoSuchElementException, IllegalArgumentException, IllegalStateException {
        Person who = personOf(person);
        needWithin(skill, 0, SKILLS - 1);
        if (who.hasSkill(skill)) {
            throw new IllegalStateException("they have the skill");
        }
        who.skills |= 1 << skill;
        return Integer.bitCount(who.skills);
    }

    public int task(int skill, int seconds, int due, int zone)
            throws IllegalArgumentException, UnsupportedOperationException {
        needWithin(skill, 0, SKILLS - 1);
        needWithin(seconds, 1, LONGEST_TASK);
        needWithin(due, 0, LAST_TIME);
        needWithin(zone, 0, ZONES - 1);
        needRoom(tasks.size(), MOST_TASKS);
        Task added = new Task(tasks.size(), skill, seconds, due, zone);
        tasks.add(added);
        return added.number;
    }

    public void way(int zone, int other, int seconds) throws IllegalArgumentException {
        needWithin(zone, 0, ZONES - 1);
        needWithin(other, 0, ZONES - 1);
        needWithin(seconds, 0, LONGEST_WAY);
        if (zone == other) {
            throw new IllegalArgumentException("a way within a zone");
        }
        ways.put(zone, other, seconds);
    }

    public boolean refuse(int person, int task) throws NoSuchElementException, IllegalStateException {
        Person who = personOf(person);
        Task what = taskOf(task);
        needOpen(what);
        if (who.hasRefused(what)) {
            throw new IllegalStateException("they refused it");
        }
        who.refused |= 1 << what.number;
        boolean wasTheirs = what.person == who.number;
        if (wasTheirs) {
            what.free();
        }
        return wasTheirs;
    }

    public int bar(int person, int task) throws NoSuchElementException, IllegalStateException {
        Person who = personOf(person);
        Task what = taskOf(task);
        needOpen(what);
        if (!who.here) {
            return 1;
        }
        if (!who.hasSkill(what.skill)) {
            return 2;
        }
        if (who.hasRefused(what)) {
            return 3;
        }
        return startAsOnlyOne(who, what) == NONE ? 4 : 0;
    }

    public int assign(int most) throws IllegalArgumentException {
        needWithin(most, 0, MOST_EXACT);
        freeOpenTasks();
        lastPlanWasExact = tasksIn(OPEN) <= most;
        if (lastPlanWasExact) {
            exactPlanner.plan(persons, tasks, ways, now);
        } else {
            planByRule();
        }
        return latenessOfPlan();
    }

    public boolean exact() {
        return lastPlanWasExact;
    }

    public int bound() {
        int sum = 0;
        for (int i = 0; i < tasks.size(); i++) {
            if (tasks.get(i).state == OPEN) {
                sum += leastLatenessAlone(tasks.get(i));
            }
        }
        return sum;
    }

    public int give(int person) throws NoSuchElementException, IllegalStateException {
        Person who = personOf(person);
        needAtWork(who);
        int first = plannedTask(who.number, 0);
        if (first == NONE || tasks.get(first).start > now) {
            return NONE;
        }
        Task begun = tasks.get(first);
        begun.state = BEGUN;
        begun.start = now;
        who.begun = first;
        who.busyUntil = now + begun.seconds;
        who.zone = begun.zone;
        return first;
    }

    public int done(int person) throws NoSuchElementException, IllegalStateException {
        Person who = personOf(person);
        if (who.begun == NONE || now < who.busyUntil) {
            throw new IllegalStateException("none begun, or its seconds are not over");
        }
        tasks.get(who.begun).state = DONE;
        who.begun = NONE;
        return tasksOf(who.number, DONE);
    }

    public int leaves(int person) throws NoSuchElementException, IllegalStateException {
        Person who = personOf(person);
        if (!who.here) {
            throw new IllegalStateException("they are gone");
        }
        who.here = false;
        who.begun = NONE;
        int freed = 0;
        for (int i = 0; i < tasks.size(); i++) {
            Task one = tasks.get(i);
            if (one.person == who.number && one.state != DONE) {
                one.free();
                freed++;
            }
        }
        return freed;
    }

    public int fair(int person) throws NoSuchElementException {
        Person who = personOf(person);
        int byAll = tasksIn(DONE);
        return byAll == 0 ? 0 : 100 * tasksOf(who.number, DONE) / byAll;
    }

    public void pass(int time) throws IllegalArgumentException {
        needWithin(time, now, LAST_TIME);
        now = time;
    }

    public int order(int person, int i) throws NoSuchElementException, IllegalArgumentException {
        Person who = personOf(person);
        if (i < 0) {
            throw new IllegalArgumentException("i is below 0");
        }
        return plannedTask(who.number, i);
    }

    public int told(int task, int what) throws NoSuchElementException, IllegalArgumentException {
        Task asked = taskOf(task);
        switch (what) {
            case 0: return asked.state;
            case 1: return asked.person;
            case 2: return asked.start;
            case 3: return asked.skill;
            case 4: return asked.seconds;
            case 5: return asked.due;
            case 6: return asked.zone;
            default: throw new IllegalArgumentException("what is outside 0 .. 6");
        }
    }

    public int known(int person, int what) throws NoSuchElementException, IllegalArgumentException {
        Person asked = personOf(person);
        switch (what) {
            case 0: return asked.here ? 1 : 0;
            case 1: return asked.skills;
            case 2: return asked.zone;
            case 3: return asked.begun;
            case 4: return tasksOf(asked.number, DONE);
            case 5: return tasksOf(asked.number, OPEN);
            default: throw new IllegalArgumentException("what is outside 0 .. 5");
        }
    }

    public int count(int what) {
        switch (what) {
            case 0: return persons.size();
            case 1: return tasks.size();
            case 2: return tasksIn(OPEN);
            case 3: return tasksIn(BEGUN);
            case 4: return tasksIn(DONE);
            case 5: return tasksOf(NONE, OPEN);
            case 6: return now;
            case 7: return latenessOfPlan();
            default: return -1;
        }
    }

    private Person personOf(int number) {
        if (number < 0 || number >= persons.size()) {
            throw new NoSuchElementException("no such person");
        }
        return persons.get(number);
    }

    private Task taskOf(int number) {
        if (number < 0 || number >= tasks.size()) {
            throw new NoSuchElementException("no such task");
        }
        return tasks.get(number);
    }

    private static void needWithin(int number, int least, int most) {
        if (number < least || number > most) {
            throw new IllegalArgumentException("a number outside its range");
        }
    }

    private static void needRoom(int held, int most) {
        if (held >= most) {
            throw new UnsupportedOperationException("no room");
        }
    }

    private static void needOpen(Task what) {
        if (what.state != OPEN) {
            throw new IllegalStateException("the task is not open");
        }
    }

    private void needAtWork(Person who) {
        if (!who.here || who.begun != NONE) {
            throw new IllegalStateException("they are gone or have begun a task");
        }
        boolean outsideHours = now < who.from || now >= who.to;
        boolean inBreak = now >= who.restFrom && now < who.restTo;
        if (outsideHours || inBreak) {
            throw new IllegalStateException("they do not work now");
        }
    }

    private int tasksIn(int state) {
        int found = 0;
        for (int i = 0; i < tasks.size(); i++) {
            if (tasks.get(i).state == state) {
                found++;
            }
        }
        return found;
    }

    private int tasksOf(int person, int state) {
        int found = 0;
        for (int i = 0; i < tasks.size(); i++) {
            if (tasks.get(i).isOf(person, state)) {
                found++;
            }
        }
        return found;
    }

    private int latenessOfPlan() {
        int sum = 0;
        for (int i = 0; i < tasks.size(); i++) {
            Task one = tasks.get(i);
            if (one.state == OPEN) {
                sum += one.person == NONE ? LATENESS_OF_NOTHING : one.latenessFrom(one.start);
            }
        }
        return sum;
    }

    private int plannedTask(int person, int place) {
        for (int i = 0; i < tasks.size(); i++) {
            if (tasks.get(i).isOf(person, OPEN) && plannedBefore(tasks.get(i)) == place) {
                return i;
            }
        }
        return NONE;
    }

    private int plannedBefore(Task later) {
        int before = 0;
        for (int i = 0; i < tasks.size(); i++) {
            Task one = tasks.get(i);
            boolean first = one.start < later.start || one.start == later.start && i < later.number;
            if (first && one.isOf(later.person, OPEN)) {
                before++;
            }
        }
        return before;
    }

    private int startAsOnlyOne(Person who, Task what) {
        return who.startOf(what, who.freeFrom(now), who.zone, ways);
    }

    private int leastLatenessAlone(Task what) {
        int least = LATENESS_OF_NOTHING;
        for (int i = 0; i < persons.size(); i++) {
            Person who = persons.get(i);
            int start = who.may(what) ? startAsOnlyOne(who, what) : NONE;
            if (start != NONE) {
                least = Math.min(least, what.latenessFrom(start));
            }
        }
        return least;
    }

    private void freeOpenTasks() {
        for (int i = 0; i < tasks.size(); i++) {
            if (tasks.get(i).state == OPEN) {
                tasks.get(i).free();
            }
        }
    }

    private void planByRule() {
        sortOpenByDue();
        for (int i = 0; i < persons.size(); i++) {
            Person who = persons.get(i);
            who.rowEnd = who.freeFrom(now);
            who.rowZone = who.zone;
            who.load = tasksOf(i, BEGUN) + tasksOf(i, DONE);
        }
        for (int i = 0; i < openByDue.size(); i++) {
            addToBestRow(openByDue.get(i));
        }
    }

    private void sortOpenByDue() {
        openByDue.clear();
        for (int i = 0; i < tasks.size(); i++) {
            Task one = tasks.get(i);
            if (one.state == OPEN) {
                int place = openByDue.size();
                while (place > 0 && openByDue.get(place - 1).due > one.due) {
                    place--;
                }
                openByDue.add(place, one);
            }
        }
    }

    private void addToBestRow(Task what) {
        int best = NONE;
        int bestStart = NONE;
        int bestLoad = 0;
        for (int i = 0; i < persons.size(); i++) {
            Person who = persons.get(i);
            int start = who.may(what) ? who.startOf(what, who.rowEnd, who.rowZone, ways) : NONE;
            if (start == NONE) {
                continue;
            }
            // The seconds are the task's own, so who begins first also ends first.
            if (best == NONE || start < bestStart || start == bestStart && who.load < bestLoad) {
                best = i;
                bestStart = start;
                bestLoad = who.load;
            }
        }
        if (best != NONE) {
            what.planFor(best, bestStart);
            persons.get(best).addToRow(what);
        }
    }

    private static final class Person {
        private final int number;
        private final int from;
        private final int to;
        private int skills;
        private int zone;
        private int restFrom;
        private int restTo;
        private boolean here = true;
        private int begun = NONE;
        private int busyUntil;
        private int refused;
        private int rowEnd;
        private int rowZone;
        private int load;

        private Person(int number, int skills, int from, int to, int zone) {
            this.number = number;
            this.skills = skills;
            this.from = from;
            this.to = to;
            this.zone = zone;
        }

        private boolean hasSkill(int skill) {
            return (skills >> skill & 1) == 1;
        }

        private boolean hasRefused(Task what) {
            return (refused >> what.number & 1) == 1;
        }

        private boolean may(Task what) {
            return here && hasSkill(what.skill) && !hasRefused(what);
        }

        private int freeFrom(int now) {
            return Math.max(now, Math.max(from, busyUntil));
        }

        /** NONE if the task would end behind the hours. */
        private int startOf(Task what, int free, int standing, Ways ways) {
            int start = free + ways.between(standing, what.zone);
            if (start < restTo && start + what.seconds > restFrom) {
                start = restTo;
            }
            return start + what.seconds > to ? NONE : start;
        }

        private void addToRow(Task what) {
            rowEnd = what.start + what.seconds;
            rowZone = what.zone;
            load++;
        }
    }

    private static final class Task {
        private final int number;
        private final int skill;
        private final int seconds;
        private final int due;
        private final int zone;
        private int state = OPEN;
        private int person = NONE;
        private int start = NONE;

        private Task(int number, int skill, int seconds, int due, int zone) {
            this.number = number;
            this.skill = skill;
            this.seconds = seconds;
            this.due = due;
            this.zone = zone;
        }

        private boolean isOf(int who, int wanted) {
            return person == who && state == wanted;
        }

        private int latenessFrom(int begin) {
            return Math.max(0, begin + seconds - due);
        }

        private void planFor(int who, int begin) {
            person = who;
            start = begin;
        }

        private void free() {
            state = OPEN;
            person = NONE;
            start = NONE;
        }
    }

    private static final class Ways {
        private final int[] seconds = new int[ZONES * ZONES];

        private void put(int zone, int other, int length) {
            seconds[zone * ZONES + other] = length;
            seconds[other * ZONES + zone] = length;
        }

        private int between(int zone, int other) {
            return seconds[zone * ZONES + other];
        }
    }

    /**
     * The exact plan. Persons do not hinder one another, so the best order of every set of tasks is
     * found for each person alone; then the sets are shared out. A set is a number with a bit for
     * each open task. A larger set may be less late than a part of it (a way by another zone may be
     * shorter), so nothing is cut off by lateness.
     */
    private static final class ExactPlanner {
        private static final int SETS = 1 << MOST_EXACT;
        private static final int CANNOT = 1000000000;
        private static final int NOBODY = MOST_PERSONS;
        private static final int[] PLACE_VALUES = {625, 125, 25, 5, 1};
        private static final long ALL_PLACES = 3125;

        private final ArrayList<Task> open = new ArrayList<>();
        private final int[][] lateness = new int[MOST_PERSONS][SETS];
        private final int[][] starts = new int[MOST_PERSONS][SETS * MOST_EXACT];
        private final int[] tried = new int[MOST_EXACT];
        private final int[] values = new int[SETS];
        private final long[][] ranks = new long[MOST_PERSONS + 1][SETS];
        private final int[][] chosen = new int[MOST_PERSONS][SETS];
        private int setCount;

        private ExactPlanner() {
            for (int set = 0; set < SETS; set++) {
                for (int i = 0; i < MOST_EXACT; i++) {
                    values[set] += (set >> i & 1) * PLACE_VALUES[i];
                }
            }
        }

        private void plan(ArrayList<Person> persons, ArrayList<Task> tasks, Ways ways, int now) {
            collectOpen(tasks);
            for (int i = 0; i < persons.size(); i++) {
                Person who = persons.get(i);
                for (int set = 0; set < setCount; set++) {
                    lateness[i][set] = CANNOT;
                }
                who.rowEnd = who.freeFrom(now);
                who.rowZone = who.zone;
                tryOrders(who, ways, 0, 0, 0);
            }
            shareOut(persons.size());
            tell(persons.size());
        }

        private void collectOpen(ArrayList<Task> tasks) {
            open.clear();
            for (int i = 0; i < tasks.size(); i++) {
                if (tasks.get(i).state == OPEN && open.size() < MOST_EXACT) {
                    open.add(tasks.get(i));
                }
            }
            setCount = 1 << open.size();
        }

        private void tryOrders(Person who, Ways ways, int set, int late, int depth) {
            keepIfBetter(who.number, set, late);
            if (depth >= open.size()) {
                return;
            }
            int free = who.rowEnd;
            int standing = who.rowZone;
            for (int i = 0; i < open.size(); i++) {
                Task next = open.get(i);
                if ((set >> i & 1) == 1 || !who.may(next)) {
                    continue;
                }
                int start = who.startOf(next, free, standing, ways);
                if (start == NONE) {
                    continue;
                }
                tried[i] = start;
                who.rowEnd = start + next.seconds;
                who.rowZone = next.zone;
                tryOrders(who, ways, set | 1 << i, late + next.latenessFrom(start), depth + 1);
            }
        }

        private void keepIfBetter(int person, int set, int late) {
            int known = lateness[person][set];
            if (late > known || late == known && !startsEarlier(person, set)) {
                return;
            }
            lateness[person][set] = late;
            for (int i = 0; i < open.size(); i++) {
                starts[person][set * MOST_EXACT + i] = tried[i];
            }
        }

        private boolean startsEarlier(int person, int set) {
            for (int i = 0; i < open.size(); i++) {
                int kept = starts[person][set * MOST_EXACT + i];
                if ((set >> i & 1) == 1 && tried[i] != kept) {
                    return tried[i] < kept;
                }
            }
            return false;
        }

        /**
         * One number orders plans by lateness and then by the persons of tasks (digits to the base
         * five, the lowest task's first), and it is a sum over persons.
         */
        private long rank(int late, int person, int set) {
            return late * ALL_PLACES + person * values[set];
        }

        private void shareOut(int persons) {
            for (int set = 0; set < setCount; set++) {
                ranks[persons][set] = rank(Integer.bitCount(set) * LATENESS_OF_NOTHING, NOBODY, set);
            }
            for (int person = persons - 1; person >= 0; person--) {
                for (int set = 0; set < setCount; set++) {
                    chooseFrom(person, set);
                }
            }
        }

        private void chooseFrom(int person, int set) {
            long best = ranks[person + 1][set];
            int taken = 0;
            for (int part = 1; part <= set; part++) {
                int late = lateness[person][part];
                if ((part & set) == part && late != CANNOT) {
                    long sum = rank(late, person, part) + ranks[person + 1][set ^ part];
                    if (sum < best) {
                        best = sum;
                        taken = part;
                    }
                }
            }
            ranks[person][set] = best;
            chosen[person][set] = taken;
        }

        private void tell(int persons) {
            int left = setCount - 1;
            for (int person = 0; person < persons; person++) {
                int taken = chosen[person][left];
                for (int i = 0; i < open.size(); i++) {
                    if ((taken >> i & 1) == 1) {
                        open.get(i).planFor(person, starts[person][taken * MOST_EXACT + i]);
                    }
                }
                left ^= taken;
            }
        }
    }
}
