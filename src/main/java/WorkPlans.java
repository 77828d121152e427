/**
 * Jobs through a workshop: what was told, plans by orders of jobs, and what can be asked of them.
 *
 * All rows are made in the constructors and used again, so that no call makes anything but the
 * exception that it throws.
 */
public final class WorkPlans {
    public static final int NONE = -1;

    private static final int KINDS = 4;
    private static final int MOST_MACHINES = 6;
    private static final int MOST_SPANS = 8;
    private static final int MOST_JOBS = 6;
    private static final int MOST_STEPS = 4;
    private static final int ALL_STEPS = MOST_JOBS * MOST_STEPS;
    private static final int MOST_BUSY = MOST_SPANS + ALL_STEPS;
    private static final int LATEST_DUE = 10000;
    private static final int LATEST_OUT_FROM = 1000;
    private static final int LATEST_OUT_TO = 2000;
    private static final int MOST_WEIGHT = 100;
    private static final int MOST_HOURS = 100;
    private static final int MOST_WAIT = 100;
    private static final int MOST_NODES = 2000;
    private static final int MOST_CHANGES = 100;
    private static final int CLASH_BASE = 8;
    private static final int RULE_BASE = 100;
    private static final int RULES_OF_STEPS = 4;
    private static final int RULE_OF_JOBS = 5;
    private static final long FACTOR = 6364136223846793005L;
    private static final long ADDEND = 1442695040888963407L;

    private final Shop shop;
    private final Floor floor;
    private final Search search;
    private final Plan plan;
    private long chance;
    private boolean toldSincePlan;

    public WorkPlans(int seed) {
        shop = new Shop();
        floor = new Floor(shop);
        search = new Search(shop, floor);
        plan = new Plan(shop);
        chance = seed;
        toldSincePlan = false;
    }

    public int machine(int kind) throws IllegalArgumentException, IllegalStateException {
        if (!isWithin(kind, 0, KINDS - 1)) {
            throw new IllegalArgumentException("no such kind");
        }
        if (shop.machines >= MOST_MACHINES) {
            throw new IllegalStateException("no room for a machine");
        }
        toldSincePlan = true;
        return shop.addMachine(kind);
    }

    public int out(int machine, int from, int to)
            throws IndexOutOfBoundsException, IllegalArgumentException, IllegalStateException {
        if (!isWithin(machine, 0, shop.machines - 1)) {
            throw new IndexOutOfBoundsException("no such machine");
        }
        if (!isWithin(from, 0, LATEST_OUT_FROM) || to <= from || to > LATEST_OUT_TO) {
            throw new IllegalArgumentException("no such span");
        }
        if (shop.spansOf[machine] >= MOST_SPANS) {
            throw new IllegalStateException("no room for a span");
        }
        toldSincePlan = true;
        return shop.addSpan(machine, from, to);
    }

    public int job(int due, int weight) throws IllegalArgumentException, IllegalStateException {
        if (!isWithin(due, 0, LATEST_DUE) || !isWithin(weight, 0, MOST_WEIGHT)) {
            throw new IllegalArgumentException("no such due hour or weight");
        }
        if (shop.jobs >= MOST_JOBS) {
            throw new IllegalStateException("no room for a job");
        }
        toldSincePlan = true;
        return shop.addJob(due, weight);
    }

    public void due(int job, int due) throws IndexOutOfBoundsException, IllegalArgumentException {
        demandJob(job);
        if (!isWithin(due, 0, LATEST_DUE)) {
            throw new IllegalArgumentException("no such due hour");
        }
        toldSincePlan = true;
        shop.dueOf[job] = due;
    }

    public int step(int job, int kind, int hours, int wait)
            throws IndexOutOfBoundsException, IllegalArgumentException, IllegalStateException {
        demandJob(job);
        if (!isWithin(kind, 0, KINDS - 1) || !isWithin(hours, 1, MOST_HOURS) || !isWithin(wait, 0, MOST_WAIT)) {
            throw new IllegalArgumentException("no such kind, hours or wait");
        }
        if (shop.stepsOf[job] >= MOST_STEPS || shop.steps >= ALL_STEPS) {
            throw new IllegalStateException("no room for a step");
        }
        toldSincePlan = true;
        return shop.addStep(job, kind, hours, wait);
    }

    public int run(int nodes) throws IllegalArgumentException, IllegalStateException {
        if (!isWithin(nodes, 1, MOST_NODES)) {
            throw new IllegalArgumentException("no such number of nodes");
        }
        if (shop.jobs == 0 || !shop.allFit()) {
            throw new IllegalStateException("no jobs, or one does not fit");
        }
        boolean closed = search.findBest(nodes);
        plan.take(search.best, floor);
        plan.bound = search.bound;
        plan.nodes = search.nodes;
        toldSincePlan = false;
        return closed ? 0 : 1;
    }

    public int improve(int n) throws IllegalArgumentException, IllegalStateException {
        if (!isWithin(n, 0, MOST_CHANGES)) {
            throw new IllegalArgumentException("no such number of changes");
        }
        demandFreshPlan();
        int less = 0;
        for (int i = 0; i < n; i++) {
            int a = nextPlace(plan.jobs);
            int b = nextPlace(plan.jobs);
            if (plan.changeIfLess(a, b, floor)) {
                less++;
            }
        }
        plan.take(plan.jobAt, floor);
        return less;
    }

    public int at(int step, int what) throws IndexOutOfBoundsException, IllegalStateException {
        if (!isWithin(step, 0, shop.steps - 1) || !isWithin(what, 0, 1)) {
            throw new IndexOutOfBoundsException("no such step or what");
        }
        demandPlan();
        if (!plan.has(step)) {
            return NONE;
        }
        return what == 0 ? plan.beginOf[step] : plan.machineOf[step];
    }

    public int order(int k) throws IllegalStateException, IndexOutOfBoundsException {
        demandPlan();
        if (!isWithin(k, 0, plan.jobs - 1)) {
            throw new IndexOutOfBoundsException("no such place");
        }
        return plan.jobAt[k];
    }

    public long about(int what) throws IndexOutOfBoundsException, IllegalStateException {
        if (!isWithin(what, 0, 3)) {
            throw new IndexOutOfBoundsException("no such what");
        }
        demandPlan();
        switch (what) {
            case 0:
                return plan.cost;
            case 1:
                return plan.bound;
            case 2:
                return plan.nodes;
            default:
                return plan.moved;
        }
    }

    public long alone(int job) throws IndexOutOfBoundsException, IllegalStateException {
        demandJob(job);
        if (!shop.fits(job)) {
            throw new IllegalStateException("the job does not fit");
        }
        return floor.costAlone(job);
    }

    public int promise(int job) throws IndexOutOfBoundsException, IllegalStateException {
        demandJob(job);
        demandFreshPlan();
        plan.layAllBut(job, floor);
        return floor.place(job);
    }

    public int clash(int k) throws IllegalArgumentException, IllegalStateException {
        if (k < 0) {
            throw new IllegalArgumentException("no such clash");
        }
        if (!shop.allFit()) {
            throw new IllegalStateException("a job does not fit");
        }
        int seen = 0;
        for (int lesser = 0; lesser < shop.jobs; lesser++) {
            for (int other = lesser + 1; other < shop.jobs; other++) {
                if (floor.doClash(lesser, other)) {
                    if (seen == k) {
                        return CLASH_BASE * lesser + other;
                    }
                    seen++;
                }
            }
        }
        return NONE;
    }

    public int check() throws IllegalStateException {
        demandPlan();
        for (int rule = 1; rule <= RULES_OF_STEPS; rule++) {
            for (int step = 0; step < shop.steps; step++) {
                if (plan.breaks(rule, step)) {
                    return RULE_BASE * rule + step;
                }
            }
        }
        for (int job = 0; job < shop.jobs; job++) {
            if (plan.endOf(job) > shop.dueOf[job]) {
                return RULE_BASE * RULE_OF_JOBS + job;
            }
        }
        return 0;
    }

    private static boolean isWithin(int number, int least, int most) {
        return number >= least && number <= most;
    }

    private static boolean shareAnHour(int from, int to, int otherFrom, int otherTo) {
        return from < otherTo && otherFrom < to;
    }

    private void demandJob(int job) {
        if (!isWithin(job, 0, shop.jobs - 1)) {
            throw new IndexOutOfBoundsException("no such job");
        }
    }

    private void demandPlan() {
        if (!plan.exists()) {
            throw new IllegalStateException("no plan");
        }
    }

    private void demandFreshPlan() {
        if (!plan.exists() || toldSincePlan) {
            throw new IllegalStateException("no plan, or something was told since");
        }
    }

    private int nextPlace(int places) {
        chance = chance * FACTOR + ADDEND;
        return places > 0 ? (int) ((chance >>> 33) % places) : 0;
    }

    /** What was told. Its adding methods expect numbers that the face has looked at. */
    private static final class Shop {
        int machines = 0;
        final int[] kindOf = new int[MOST_MACHINES];
        final int[] spansOf = new int[MOST_MACHINES];
        final int[] spanFrom = new int[MOST_MACHINES * MOST_SPANS];
        final int[] spanTo = new int[MOST_MACHINES * MOST_SPANS];

        int jobs = 0;
        final int[] dueOf = new int[MOST_JOBS];
        final int[] weightOf = new int[MOST_JOBS];
        final int[] stepsOf = new int[MOST_JOBS];
        final int[] stepAt = new int[ALL_STEPS];

        int steps = 0;
        final int[] stepKind = new int[ALL_STEPS];
        final int[] stepHours = new int[ALL_STEPS];
        final int[] stepWait = new int[ALL_STEPS];
        final int[] stepBefore = new int[ALL_STEPS];

        int addMachine(int kind) {
            int machine = machines;
            kindOf[machine] = kind;
            machines++;
            return machine;
        }

        int addSpan(int machine, int from, int to) {
            int place = machine * MOST_SPANS + spansOf[machine];
            spanFrom[place] = from;
            spanTo[place] = to;
            spansOf[machine]++;
            return spansOf[machine];
        }

        int addJob(int due, int weight) {
            int job = jobs;
            dueOf[job] = due;
            weightOf[job] = weight;
            jobs++;
            return job;
        }

        int addStep(int job, int kind, int hours, int wait) {
            int step = steps;
            stepKind[step] = kind;
            stepHours[step] = hours;
            stepWait[step] = wait;
            stepBefore[step] = lastStep(job);
            stepAt[job * MOST_STEPS + stepsOf[job]] = step;
            stepsOf[job]++;
            steps++;
            return step;
        }

        int lastStep(int job) {
            return stepsOf[job] > 0 ? stepAt[job * MOST_STEPS + stepsOf[job] - 1] : NONE;
        }

        boolean fits(int job) {
            for (int i = 0; i < stepsOf[job]; i++) {
                if (!hasMachine(stepKind[stepAt[job * MOST_STEPS + i]])) {
                    return false;
                }
            }
            return true;
        }

        boolean allFit() {
            for (int job = 0; job < jobs; job++) {
                if (!fits(job)) {
                    return false;
                }
            }
            return true;
        }

        long costOf(int job, int end) {
            long late = (long) end - dueOf[job];
            return late > 0 ? late * weightOf[job] : 0;
        }

        private boolean hasMachine(int kind) {
            for (int machine = 0; machine < machines; machine++) {
                if (kindOf[machine] == kind) {
                    return true;
                }
            }
            return false;
        }
    }

    /**
     * Where jobs are placed to see what comes of it. A machine's row of busy hours begins with the
     * spans in which it is out, so that one look along it answers for these and for placed steps.
     */
    private static final class Floor {
        private final Shop shop;
        final int[] beginOf = new int[ALL_STEPS];
        final int[] machineOf = new int[ALL_STEPS];
        private final int[] busyCount = new int[MOST_MACHINES];
        private final int[] busyFrom = new int[MOST_MACHINES * MOST_BUSY];
        private final int[] busyTo = new int[MOST_MACHINES * MOST_BUSY];

        Floor(Shop shop) {
            this.shop = shop;
        }

        void clear() {
            for (int machine = 0; machine < shop.machines; machine++) {
                busyCount[machine] = 0;
                for (int i = 0; i < shop.spansOf[machine]; i++) {
                    int span = machine * MOST_SPANS + i;
                    addBusy(machine, shop.spanFrom[span], shop.spanTo[span]);
                }
            }
        }

        /** Places a job that fits behind all that is placed: its end. */
        int place(int job) {
            int end = 0;
            int ready = 0;
            for (int i = 0; i < shop.stepsOf[job]; i++) {
                int step = shop.stepAt[job * MOST_STEPS + i];
                end = placeStep(step, ready) + shop.stepHours[step];
                ready = end + shop.stepWait[step];
            }
            return end;
        }

        /** Takes away the job that was placed last. */
        void lift(int job) {
            for (int i = 0; i < shop.stepsOf[job]; i++) {
                int machine = machineOf[shop.stepAt[job * MOST_STEPS + i]];
                if (machine != NONE && busyCount[machine] > 0) {
                    busyCount[machine]--;
                }
            }
        }

        void put(int step, int machine, int begin) {
            beginOf[step] = begin;
            machineOf[step] = machine;
            if (machine != NONE) {
                addBusy(machine, begin, begin + shop.stepHours[step]);
            }
        }

        long costInOrder(int[] jobAt, int jobs) {
            clear();
            long cost = 0;
            for (int k = 0; k < jobs; k++) {
                cost += shop.costOf(jobAt[k], place(jobAt[k]));
            }
            return cost;
        }

        long costAlone(int job) {
            clear();
            return shop.costOf(job, place(job));
        }

        boolean doClash(int job, int other) {
            return costAlone(job) == 0 && costAlone(other) == 0
                && costOfTwo(job, other) > 0 && costOfTwo(other, job) > 0;
        }

        private long costOfTwo(int first, int second) {
            clear();
            long cost = shop.costOf(first, place(first));
            return cost + shop.costOf(second, place(second));
        }

        private int placeStep(int step, int ready) {
            int begin = ready;
            int machine = NONE;
            for (int m = 0; m < shop.machines; m++) {
                if (shop.kindOf[m] == shop.stepKind[step]) {
                    int first = firstBegin(m, ready, shop.stepHours[step]);
                    if (machine == NONE || first < begin) {
                        begin = first;
                        machine = m;
                    }
                }
            }
            put(step, machine, begin);
            return begin;
        }

        /** Each look along the row but the last leaves one busy time more behind for good. */
        private int firstBegin(int machine, int ready, int hours) {
            int begin = ready;
            int row = machine * MOST_BUSY;
            boolean moved = true;
            for (int look = 0; look <= MOST_BUSY && moved; look++) {
                moved = false;
                for (int i = row; i < row + busyCount[machine]; i++) {
                    if (shareAnHour(begin, begin + hours, busyFrom[i], busyTo[i])) {
                        begin = busyTo[i];
                        moved = true;
                    }
                }
            }
            return begin;
        }

        private void addBusy(int machine, int from, int to) {
            if (busyCount[machine] < MOST_BUSY) {
                int place = machine * MOST_BUSY + busyCount[machine];
                busyFrom[place] = from;
                busyTo[place] = to;
                busyCount[machine]++;
            }
        }
    }

    /** The best order by branches and bounds. */
    private static final class Search {
        private final Shop shop;
        private final Floor floor;
        private final long[] aloneOf = new long[MOST_JOBS];
        private final int[] begun = new int[MOST_JOBS];
        private final boolean[] isBegun = new boolean[MOST_JOBS];
        final int[] best = new int[MOST_JOBS];
        private long bestCost = 0;
        private int limit = 0;
        long bound = 0;
        int nodes = 0;

        Search(Shop shop, Floor floor) {
            this.shop = shop;
            this.floor = floor;
        }

        /** False if the nodes did not do. */
        boolean findBest(int nodesTold) {
            limit = nodesTold;
            nodes = 0;
            bound = 0;
            for (int job = 0; job < shop.jobs; job++) {
                aloneOf[job] = floor.costAlone(job);
                bound += aloneOf[job];
            }
            orderByDue();
            bestCost = floor.costInOrder(best, shop.jobs);
            floor.clear();
            return goOn(0, 0, bound);
        }

        private void orderByDue() {
            for (int job = 0; job < shop.jobs; job++) {
                int place = job;
                while (place > 0 && shop.dueOf[best[place - 1]] > shop.dueOf[job]) {
                    best[place] = best[place - 1];
                    place--;
                }
                best[place] = job;
            }
        }

        /** Tries all jobs at a place, behind begun ones of that cost: false if the nodes did not do. */
        private boolean goOn(int place, long cost, long aloneOfOthers) {
            for (int job = 0; job < shop.jobs && place < shop.jobs; job++) {
                if (isBegun[job]) {
                    continue;
                }
                if (nodes >= limit) {
                    return false;
                }
                nodes++;
                begun[place] = job;
                long nodeCost = cost + shop.costOf(job, floor.place(job));
                if (!follow(place, nodeCost, aloneOfOthers - aloneOf[job])) {
                    return false;
                }
                floor.lift(job);
            }
            return true;
        }

        private boolean follow(int place, long cost, long aloneOfOthers) {
            if (cost + aloneOfOthers >= bestCost) {
                return true;
            }
            if (place + 1 >= shop.jobs) {
                bestCost = cost;
                System.arraycopy(begun, 0, best, 0, MOST_JOBS);
                return true;
            }
            int job = begun[place];
            isBegun[job] = true;
            boolean closed = goOn(place + 1, cost, aloneOfOthers);
            isBegun[job] = false;
            return closed;
        }
    }

    /** The plan, held apart from the floor so that questions in between leave it as it is. */
    private static final class Plan {
        private final Shop shop;
        final int[] jobAt = new int[MOST_JOBS];
        final int[] beginOf = new int[ALL_STEPS];
        final int[] machineOf = new int[ALL_STEPS];
        int jobs = 0;
        private int steps = 0;
        long cost = 0;
        long bound = 0;
        int nodes = 0;
        int moved = 0;

        Plan(Shop shop) {
            this.shop = shop;
        }

        /** Only a run makes a plan, and there is none of no jobs. */
        boolean exists() {
            return jobs > 0;
        }

        boolean has(int step) {
            return step >= 0 && step < steps;
        }

        /** Becomes the plan of an order of all jobs. */
        void take(int[] order, Floor floor) {
            cost = floor.costInOrder(order, shop.jobs);
            moved = 0;
            for (int step = 0; step < shop.steps; step++) {
                if (!has(step) || beginOf[step] != floor.beginOf[step] || machineOf[step] != floor.machineOf[step]) {
                    moved++;
                }
                beginOf[step] = floor.beginOf[step];
                machineOf[step] = floor.machineOf[step];
            }
            System.arraycopy(order, 0, jobAt, 0, MOST_JOBS);
            jobs = shop.jobs;
            steps = shop.steps;
        }

        /** Changes order and cost alone: take() sees to the steps when all changes are through. */
        boolean changeIfLess(int a, int b, Floor floor) {
            swap(a, b);
            long changed = floor.costInOrder(jobAt, jobs);
            if (changed < cost) {
                cost = changed;
                return true;
            }
            swap(a, b);
            return false;
        }

        void layAllBut(int left, Floor floor) {
            floor.clear();
            for (int job = 0; job < jobs; job++) {
                for (int i = 0; job != left && i < shop.stepsOf[job]; i++) {
                    int step = shop.stepAt[job * MOST_STEPS + i];
                    floor.put(step, machineOf[step], beginOf[step]);
                }
            }
        }

        boolean breaks(int rule, int step) {
            switch (rule) {
                case 1:
                    return !has(step);
                case 2:
                    return beginsTooEarly(step);
                case 3:
                    return sharesWithStep(step);
                case 4:
                    return sharesWithSpan(step);
                default:
                    return false;
            }
        }

        int endOf(int job) {
            int step = shop.lastStep(job);
            return has(step) ? stepEnd(step) : 0;
        }

        private void swap(int a, int b) {
            int job = jobAt[a];
            jobAt[a] = jobAt[b];
            jobAt[b] = job;
        }

        private int stepEnd(int step) {
            return beginOf[step] + shop.stepHours[step];
        }

        private boolean beginsTooEarly(int step) {
            int before = shop.stepBefore[step];
            return before != NONE && beginOf[step] < stepEnd(before) + shop.stepWait[before];
        }

        private boolean sharesWithStep(int step) {
            for (int lesser = 0; lesser < step; lesser++) {
                if (machineOf[lesser] == machineOf[step]
                    && shareAnHour(beginOf[step], stepEnd(step), beginOf[lesser], stepEnd(lesser))) {
                    return true;
                }
            }
            return false;
        }

        private boolean sharesWithSpan(int step) {
            int machine = machineOf[step];
            if (machine == NONE) {
                return false;
            }
            for (int i = 0; i < shop.spansOf[machine]; i++) {
                int span = machine * MOST_SPANS + i;
                if (shareAnHour(beginOf[step], stepEnd(step), shop.spanFrom[span], shop.spanTo[span])) {
                    return true;
                }
            }
            return false;
        }
    }
}
