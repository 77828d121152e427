/** Each promise by hand: ordinary inputs, the edges that the document names, and wrong inputs. */
public final class PromisesTest {
    private static final Class<IndexOutOfBoundsException> INDEX = Expect.INDEX;
    private static final Class<IllegalArgumentException> ARGUMENT = Expect.ARGUMENT;
    private static final Class<IllegalStateException> STATE = Expect.STATE;
    private static final int LOW = Shops.LOW;
    private static final int HIGH = Shops.HIGH;

    public static void main(String[] args) {
        promise1NewObject();
        promise1Seed();
        promise2Machine();
        promise3Out();
        promise3OutHours();
        promise4Job();
        promise5Due();
        promise6Step();
        promise6Placing();
        promise7Run();
        promise7Nodes();
        promise7Refusals();
        promise8Improve();
        promise8Refusals();
        promise9At();
        promise10Order();
        promise11About();
        promise12Alone();
        promise13Promise();
        promise13Refusals();
        promise14Clash();
        promise14Edges();
        promise15Check();
        promise15RulesApart();
        fullShop();
        Expect.end("PromisesTest");
    }

    private static void promise1NewObject() {
        WorkPlans w = new WorkPlans(0);
        Expect.refuses("new: run", STATE, () -> w.run(1));
        Expect.refuses("new: improve", STATE, () -> w.improve(0));
        Expect.refuses("new: at", INDEX, () -> w.at(0, 0));
        Expect.refuses("new: order", STATE, () -> w.order(0));
        Expect.refuses("new: about", STATE, () -> w.about(0));
        Expect.refuses("new: alone", INDEX, () -> w.alone(0));
        Expect.refuses("new: promise", INDEX, () -> w.promise(0));
        Expect.refuses("new: out", INDEX, () -> w.out(0, 0, 1));
        Expect.refuses("new: step", INDEX, () -> w.step(0, 0, 1, 0));
        Expect.refuses("new: check", STATE, w::check);
        Expect.answers("new: clash", WorkPlans.NONE, () -> w.clash(0));
        Expect.answers("new: first machine", 0, () -> w.machine(3));
        Expect.answers("new: first job", 0, () -> w.job(0, 0));
    }

    /** The places that a seed draws, counted here apart: with two jobs, a change is tried where they differ. */
    private static void promise1Seed() {
        int[] seeds = {0, 1, 2, 3, 7, -1, -5, LOW, HIGH};
        for (int seed : seeds) {
            long x = seed;
            int first = HIGH;
            for (int i = 0; i < 100 && first == HIGH; i++) {
                x = x * 6364136223846793005L + 1442695040888963407L;
                long a = (x >>> 33) % 2;
                x = x * 6364136223846793005L + 1442695040888963407L;
                long b = (x >>> 33) % 2;
                first = a != b ? i + 1 : HIGH;
            }
            WorkPlans w = new WorkPlans(seed);
            w.machine(0);
            w.step(w.job(1, 1), 0, 9, 0);
            w.step(w.job(2, 9), 0, 1, 0);
            w.run(1);
            int draws = first;
            Expect.answers("seed " + seed + ": before the first change", 0, () -> w.improve(draws - 1));
            Expect.answers("seed " + seed + ": the first change", 1, () -> w.improve(1));
            Shops.orderIs("seed " + seed, w, 1, 0);
        }
    }

    private static void promise2Machine() {
        WorkPlans w = new WorkPlans(0);
        for (int kind : new int[] {-1, 4, LOW, HIGH}) {
            Expect.refuses("machine(" + kind + ")", ARGUMENT, () -> w.machine(kind));
        }
        for (int i = 0; i < 6; i++) {
            int kind = i % 4;
            Expect.answers("machine " + i, i, () -> w.machine(kind));
        }
        Expect.refuses("a seventh machine", STATE, () -> w.machine(0));
        Expect.refuses("a seventh machine of no kind", ARGUMENT, () -> w.machine(4));
        w.step(w.job(0, 0), 3, 1, 0);
        w.run(1);
        Shops.isAt("the only machine of kind 3", w, 0, 0, 3);
    }

    private static void promise3Out() {
        WorkPlans w = new WorkPlans(0);
        w.machine(0);
        w.machine(0);
        for (int machine : new int[] {-1, 2, 6, LOW, HIGH}) {
            Expect.refuses("out of machine " + machine, INDEX, () -> w.out(machine, 0, 1));
            Expect.refuses("a wrong span of machine " + machine, INDEX, () -> w.out(machine, 1, 0));
        }
        int[][] wrong = {{-1, 5}, {1001, 1002}, {5, 5}, {5, 4}, {0, 2001}, {1000, 2001}, {LOW, 1}, {HIGH, LOW}, {0, LOW}};
        for (int[] span : wrong) {
            Expect.refuses("out(0, " + span[0] + ", " + span[1] + ")", ARGUMENT, () -> w.out(0, span[0], span[1]));
        }
        Expect.answers("a span up to the last hour", 1, () -> w.out(0, 1000, 2000));
        Expect.answers("a span of one hour", 2, () -> w.out(0, 0, 1));
        Expect.answers("the first span of another machine", 1, () -> w.out(1, 0, 1));
        for (int i = 3; i <= 8; i++) {
            int count = i;
            Expect.answers("span " + i, i, () -> w.out(0, count, count + 9));
        }
        Expect.refuses("a ninth span", STATE, () -> w.out(0, 0, 1));
        Expect.refuses("a wrong ninth span", ARGUMENT, () -> w.out(0, 1, 1));
        Expect.answers("the other machine has room", 2, () -> w.out(1, 0, 1));
    }

    private static void promise3OutHours() {
        WorkPlans w = Shops.oneMachine(0, 3);
        w.out(0, 3, 5);
        w.run(1);
        Shops.isAt("a step ends where a span begins", w, 0, 0, 0);
        w.out(0, 2, 3);
        w.run(1);
        Shops.isAt("a step begins where a span ends", w, 0, 5, 0);
        w.out(0, 7, 8);
        w.out(0, 10, 12);
        w.run(1);
        Shops.isAt("gaps that are too short", w, 0, 12, 0);
        w.out(0, 0, 2000);
        w.run(1);
        Shops.isAt("spans may share hours", w, 0, 2000, 0);
    }

    private static void promise4Job() {
        WorkPlans w = new WorkPlans(0);
        int[][] wrong = {{-1, 0}, {10001, 0}, {0, -1}, {0, 101}, {LOW, 0}, {HIGH, 0}, {0, LOW}, {0, HIGH}};
        for (int[] pair : wrong) {
            Expect.refuses("job(" + pair[0] + ", " + pair[1] + ")", ARGUMENT, () -> w.job(pair[0], pair[1]));
        }
        int[][] right = {{0, 0}, {10000, 100}, {0, 100}, {10000, 0}, {1, 1}, {5, 7}};
        for (int i = 0; i < right.length; i++) {
            int[] pair = right[i];
            Expect.answers("job " + i, i, () -> w.job(pair[0], pair[1]));
        }
        Expect.refuses("a seventh job", STATE, () -> w.job(0, 0));
        Expect.refuses("a wrong seventh job", ARGUMENT, () -> w.job(0, 101));
        w.machine(0);
        w.step(2, 0, 3, 0);
        Expect.answers("weight for each hour", 300, () -> w.alone(2));
    }

    private static void promise5Due() {
        WorkPlans w = Shops.oneMachine(4, 3);
        for (int job : new int[] {-1, 1, 6, LOW, HIGH}) {
            Expect.refuses("due of job " + job, INDEX, () -> Shops.tellDue(w, job, 5));
            Expect.refuses("a wrong due of job " + job, INDEX, () -> Shops.tellDue(w, job, -1));
        }
        for (int due : new int[] {-1, 10001, LOW, HIGH}) {
            Expect.refuses("due(0, " + due + ")", ARGUMENT, () -> Shops.tellDue(w, 0, due));
        }
        Expect.answers("due as before", 0, () -> w.alone(0));
        Expect.answers("due(0, 0)", 0, () -> Shops.tellDue(w, 0, 0));
        Expect.answers("due at 0", 3, () -> w.alone(0));
        Expect.answers("due(0, 10000)", 0, () -> Shops.tellDue(w, 0, 10000));
        Expect.answers("due at 10000", 0, () -> w.alone(0));
    }

    private static void promise6Step() {
        WorkPlans w = new WorkPlans(0);
        w.job(0, 1);
        w.job(0, 1);
        for (int job : new int[] {-1, 2, 6, LOW, HIGH}) {
            Expect.refuses("step of job " + job, INDEX, () -> w.step(job, 0, 1, 0));
            Expect.refuses("a wrong step of job " + job, INDEX, () -> w.step(job, 9, 0, -1));
        }
        int[][] wrong = {{-1, 1, 0}, {4, 1, 0}, {0, 0, 0}, {0, 101, 0}, {0, 1, -1}, {0, 1, 101},
            {LOW, 1, 0}, {HIGH, 1, 0}, {0, LOW, 0}, {0, HIGH, 0}, {0, 1, LOW}, {0, 1, HIGH}};
        for (int[] s : wrong) {
            Expect.refuses("step(0, " + s[0] + ", " + s[1] + ", " + s[2] + ")", ARGUMENT, () -> w.step(0, s[0], s[1], s[2]));
        }
        Expect.answers("the first step", 0, () -> w.step(1, 3, 100, 100));
        Expect.answers("numbers are of all jobs", 1, () -> w.step(0, 0, 1, 0));
        Expect.answers("step 2", 2, () -> w.step(1, 0, 1, 0));
        Expect.answers("step 3", 3, () -> w.step(1, 0, 1, 0));
        Expect.answers("step 4", 4, () -> w.step(1, 0, 1, 0));
        Expect.refuses("a fifth step of a job", STATE, () -> w.step(1, 0, 1, 0));
        Expect.refuses("a wrong fifth step", ARGUMENT, () -> w.step(1, 0, 0, 0));
        Expect.answers("another job has room", 5, () -> w.step(0, 0, 1, 0));
    }

    private static void promise6Placing() {
        WorkPlans w = new WorkPlans(0);
        w.machine(1);
        w.machine(0);
        w.machine(0);
        int first = w.job(5, 1);
        w.step(first, 0, 4, 2);
        w.step(first, 1, 3, 50);
        w.step(first, 0, 1, 100);
        int second = w.job(6, 1);
        w.step(second, 0, 2, 0);
        w.step(second, 1, 6, 0);
        w.step(second, 0, 7, 0);
        w.run(1);
        Shops.isAt("of several machines the least", w, 0, 0, 1);
        Shops.isAt("behind end and wait", w, 1, 6, 0);
        Shops.isAt("behind a long wait", w, 2, 59, 1);
        Shops.isAt("the machine where it begins first", w, 3, 0, 2);
        Shops.isAt("a gap that is too short is left", w, 4, 9, 0);
        Shops.isAt("an equal hour on the lesser machine", w, 5, 15, 1);
        Expect.answers("the wait behind the last step is not in the end", 55 + 16, () -> w.about(0));

        WorkPlans gap = Shops.oneMachine(0, 1);
        gap.step(0, 0, 1, 0);
        int late = gap.job(1, 1);
        gap.step(late, 0, 4, 0);
        gap.out(0, 1, 5);
        gap.run(1);
        Shops.isAt("the second step behind the span", gap, 1, 5, 0);
        Shops.isAt("a job behind both", gap, 2, 6, 0);
        gap.step(gap.job(2, 1), 0, 1, 0);
        gap.out(0, 8, 9);
        gap.run(1);
        Shops.isAt("a step too long for the gap", gap, 2, 9, 0);
        Shops.isAt("a later job may begin in an earlier gap", gap, 3, 6, 0);
    }

    private static void promise7Run() {
        WorkPlans w = Shops.oneMachine(9, 4, 3, 3, 9, 1, 3, 2);
        Expect.answers("one node is not enough", 1, () -> w.run(1));
        Shops.orderIs("by due, of several the lesser first", w, 1, 3, 0, 2);
        Expect.answers("cost by due", 0 + 2 + 0 + 1, () -> w.about(0));
        Expect.answers("closed", 0, () -> w.run(2000));
        Expect.answers("the best cost", 2 + 1, () -> w.about(0));
        Shops.orderIs("an equal cost is not better", w, 1, 3, 0, 2);

        WorkPlans heavy = new WorkPlans(0);
        heavy.machine(0);
        heavy.step(heavy.job(2, 1), 0, 4, 0);
        heavy.step(heavy.job(3, 5), 0, 2, 0);
        heavy.step(heavy.job(4, 2), 0, 1, 0);
        Expect.answers("weights: closed", 0, () -> heavy.run(2000));
        Shops.orderIs("weights: the best order", heavy, 1, 2, 0);
        Expect.answers("weights: the best cost", 5, () -> heavy.about(0));
    }

    private static void promise7Nodes() {
        // ALONE is 0 and 0, by due the cost is 1: both jobs are gone on from, and no order is better.
        WorkPlans w = Shops.oneMachine(4, 4, 5, 2);
        Expect.answers("0, 0 1, 1, 1 0", 4, () -> nodesOf(w, 2000));
        Expect.answers("as many nodes as told are enough", 0, () -> w.run(4));
        Expect.answers("one less is not", 1, () -> w.run(3));
        Expect.answers("the node too many is not counted", 3, () -> w.about(2));

        // On a machine each the first order costs as much as ALONE of both: both jobs are left at once.
        WorkPlans apart = Shops.oneMachine(0, 5);
        apart.machine(1);
        apart.step(apart.job(0, 1), 1, 7, 0);
        Expect.answers("0, 1", 2, () -> nodesOf(apart, 2000));

        // By due it costs 1 + 2 + 11; behind the long job each short one is left, with all of its orders.
        WorkPlans shortFirst = Shops.oneMachine(0, 1, 0, 1, 0, 9);
        Expect.answers("all but 2 0 1 and 2 1 0", 13, () -> nodesOf(shortFirst, 2000));

        // By due it costs 9 + 10 + 11; node 8 is the better 1 0 2 of 22, node 10 the best 1 2 0 of 14.
        WorkPlans longFirst = Shops.oneMachine(0, 9, 0, 1, 0, 1);
        Expect.answers("all", 15, () -> nodesOf(longFirst, 2000));
        Shops.orderIs("the first of equal ones", longFirst, 1, 2, 0);
        Expect.answers("up to 1 2 0", 1, () -> longFirst.run(10));
        Shops.orderIs("ended behind the best", longFirst, 1, 2, 0);
        Expect.answers("up to 1 2", 1, () -> longFirst.run(9));
        Shops.orderIs("ended before it", longFirst, 1, 0, 2);
    }

    private static long nodesOf(WorkPlans w, int nodes) {
        w.run(nodes);
        return w.about(2);
    }

    private static void promise7Refusals() {
        WorkPlans w = new WorkPlans(0);
        for (int nodes : new int[] {0, -1, 2001, LOW, HIGH}) {
            Expect.refuses("run(" + nodes + ") without jobs", ARGUMENT, () -> w.run(nodes));
        }
        Expect.refuses("no jobs", STATE, () -> w.run(2000));
        w.job(0, 1);
        Expect.answers("a job without steps fits", 0, () -> w.run(1));
        w.machine(1);
        w.step(0, 1, 1, 0);
        w.run(2000);
        w.step(0, 2, 1, 0);
        Expect.refuses("a step without a machine", STATE, () -> w.run(1));
        Expect.refuses("a wrong number first", ARGUMENT, () -> w.run(0));
        Expect.answers("the plan is as before", 0, () -> w.at(0, 0));
        Expect.answers("the step told since is in none", WorkPlans.NONE, () -> w.at(1, 0));
        w.machine(2);
        Expect.answers("with its machine it fits", 0, () -> w.run(1));
    }

    private static void promise8Improve() {
        WorkPlans w = Shops.oneMachine(1, 9, 2, 1);
        w.run(1);
        Expect.answers("cost by due", 8 + 8, () -> w.about(0));
        Expect.answers("improve(0)", 0, () -> w.improve(0));
        Expect.answers("a hundred draws find the only change", 1, () -> w.improve(100));
        Shops.orderIs("improved", w, 1, 0);
        Expect.answers("the lesser cost", 9, () -> w.about(0));
        Shops.isAt("improved", w, 0, 1, 0);
        Shops.isAt("improved", w, 1, 0, 0);
        Expect.answers("none costs less", 0, () -> w.improve(100));
        Expect.answers("the plan may be asked on", 10, () -> w.promise(0));

        WorkPlans even = Shops.oneMachine(1, 3, 1, 3);
        even.run(1);
        Expect.answers("an equal cost is no change", 0, () -> even.improve(100));
        Shops.orderIs("an equal cost", even, 0, 1);

        WorkPlans parts = sixJobs();
        WorkPlans whole = sixJobs();
        int less = whole.improve(30);
        Expect.answers("draws go on from call to call", less,
            () -> parts.improve(7) + parts.improve(0) + parts.improve(20) + parts.improve(3));
        Expect.answers("with the same cost", whole.about(0), () -> parts.about(0));
        WorkPlans again = sixJobs();
        again.improve(7);
        again.run(1);
        Expect.answers("a run does not begin them anew", sevenDrawnBefore(), () -> again.improve(2));
    }

    private static WorkPlans sixJobs() {
        WorkPlans w = Shops.oneMachine(4, 13, 5, 8, 6, 5, 7, 3, 8, 2, 9, 1);
        w.run(1);
        return w;
    }

    /** How often two changes of sixJobs() cost less, the draws of seed 1 beginning behind the seventh. */
    private static int sevenDrawnBefore() {
        int[] dues = {4, 5, 6, 7, 8, 9};
        int[] hours = {13, 8, 5, 3, 2, 1};
        int[] order = {0, 1, 2, 3, 4, 5};
        long x = 1;
        int less = 0;
        for (int i = 0; i < 9; i++) {
            x = x * 6364136223846793005L + 1442695040888963407L;
            int a = (int) ((x >>> 33) % 6);
            x = x * 6364136223846793005L + 1442695040888963407L;
            int b = (int) ((x >>> 33) % 6);
            int[] changed = order.clone();
            changed[a] = order[b];
            changed[b] = order[a];
            if (i >= 7 && lateness(changed, dues, hours) < lateness(order, dues, hours)) {
                order = changed;
                less++;
            }
        }
        return less;
    }

    private static int lateness(int[] order, int[] dues, int[] hours) {
        int hour = 0;
        int late = 0;
        for (int job : order) {
            hour += hours[job];
            late += Math.max(0, hour - dues[job]);
        }
        return late;
    }

    private static void promise8Refusals() {
        WorkPlans w = Shops.oneMachine(1, 9, 2, 1);
        Expect.refuses("no plan", STATE, () -> w.improve(1));
        for (int n : new int[] {-1, 101, LOW, HIGH}) {
            Expect.refuses("improve(" + n + ") without a plan", ARGUMENT, () -> w.improve(n));
        }
        staleByEachTelling("improve", () -> 0, w, () -> w.improve(0));
    }

    /** Each thing told makes a call throw until the next run; what is refused does not. */
    private static void staleByEachTelling(String what, Expect.Call wanted, WorkPlans w, Expect.Call call) {
        Expect.Call[] tellings = {() -> w.machine(3), () -> w.out(0, 900, 901), () -> w.job(0, 0),
            () -> Shops.tellDue(w, 0, 1), () -> w.step(0, 0, 1, 0)};
        Expect.Call[] refused = {() -> w.machine(4), () -> w.out(0, 5, 5), () -> w.job(0, 101),
            () -> Shops.tellDue(w, 9, 1), () -> w.step(0, 0, 0, 0), () -> w.run(0)};
        for (int i = 0; i < tellings.length; i++) {
            w.run(1);
            Expect.same(what + " of a fresh plan " + i, Expect.told(wanted), Expect.told(call));
            tellings[i].answer();
            Expect.refuses(what + " behind telling " + i, STATE, call);
        }
        w.run(1);
        for (Expect.Call telling : refused) {
            Expect.told(telling);
        }
        String got = Expect.told(call);
        Expect.same(what + " behind refused calls", "false", Boolean.toString(got.startsWith("throws")));
    }

    private static void promise9At() {
        WorkPlans w = Shops.oneMachine(9, 4, 3, 3);
        Expect.refuses("no plan", STATE, () -> w.at(0, 0));
        Expect.refuses("no plan, no such what", INDEX, () -> w.at(0, 2));
        Expect.refuses("no plan, no such step", INDEX, () -> w.at(2, 0));
        w.run(9);
        Shops.isAt("the first", w, 1, 0, 0);
        Shops.isAt("the second", w, 0, 3, 0);
        for (int step : new int[] {-1, 2, 24, LOW, HIGH}) {
            Expect.refuses("at(" + step + ", 0)", INDEX, () -> w.at(step, 0));
        }
        for (int what : new int[] {-1, 2, LOW, HIGH}) {
            Expect.refuses("at(0, " + what + ")", INDEX, () -> w.at(0, what));
        }
        w.step(1, 0, 1, 0);
        Shops.isAt("told behind the plan", w, 2, WorkPlans.NONE, WorkPlans.NONE);
        Shops.isAt("the plan stays", w, 0, 3, 0);
        w.run(9);
        Shops.isAt("planned", w, 2, 3, 0);
    }

    private static void promise10Order() {
        WorkPlans w = Shops.oneMachine(9, 4, 3, 3);
        for (int k : new int[] {0, -1, 6, LOW, HIGH}) {
            Expect.refuses("order(" + k + ") without a plan", STATE, () -> w.order(k));
        }
        w.run(9);
        Shops.orderIs("two jobs", w, 1, 0);
        for (int k : new int[] {-1, 2, 6, LOW, HIGH}) {
            Expect.refuses("order(" + k + ")", INDEX, () -> w.order(k));
        }
        w.job(0, 0);
        Shops.orderIs("a job told since has no place", w, 1, 0);
        w.run(9);
        Shops.orderIs("three jobs", w, 2, 1, 0);
    }

    private static void promise11About() {
        WorkPlans w = Shops.oneMachine(1, 9, 2, 1);
        for (int what : new int[] {-1, 4, LOW, HIGH}) {
            Expect.refuses("about(" + what + ")", INDEX, () -> w.about(what));
        }
        Expect.refuses("no plan", STATE, () -> w.about(3));
        w.run(1);
        Shops.aboutIs("the first run", w, 16, 8, 1, 2);
        w.run(1);
        Shops.aboutIs("the same again", w, 16, 8, 1, 0);
        w.improve(100);
        Shops.aboutIs("improved: both steps elsewhere, nodes of the run", w, 9, 8, 1, 2);
        w.improve(1);
        Shops.aboutIs("nothing more", w, 9, 8, 1, 0);
        w.due(0, 0);
        Shops.aboutIs("what is told changes nothing", w, 9, 8, 1, 0);
        w.step(w.job(100, 1), 0, 2, 0);
        Shops.aboutIs("a job told changes nothing", w, 9, 8, 1, 0);
        w.run(1);
        Shops.aboutIs("two steps elsewhere and a new one", w, 9 + 8, 9, 1, 3);
        w.machine(0);
        w.run(2000);
        Expect.answers("two machines: cost", 9, () -> w.about(0));
        Expect.answers("two machines: bound", 9, () -> w.about(1));
        Expect.answers("another machine or hour", 2, () -> w.about(3));
    }

    private static void promise12Alone() {
        WorkPlans w = Shops.oneMachine(1, 9, 2, 1);
        for (int job : new int[] {-1, 2, 6, LOW, HIGH}) {
            Expect.refuses("alone(" + job + ")", INDEX, () -> w.alone(job));
        }
        w.run(9);
        Expect.answers("late by itself", 8, () -> w.alone(0));
        Expect.answers("in time by itself", 0, () -> w.alone(1));
        w.out(0, 0, 5);
        Expect.answers("as things are, not as planned", 4, () -> w.alone(1));
        w.step(1, 1, 1, 0);
        Expect.refuses("it does not fit", STATE, () -> w.alone(1));
        Expect.answers("another job does", 13, () -> w.alone(0));
        w.job(0, 100);
        Expect.answers("a job without steps ends at 0", 0, () -> w.alone(2));
        w.step(w.job(0, 0), 0, 100, 0);
        Expect.answers("no weight, no cost", 0, () -> w.alone(3));
        Shops.isAt("the plan stays", w, 1, 0, 0);
    }

    private static void promise13Promise() {
        WorkPlans w = new WorkPlans(0);
        w.machine(0);
        w.machine(1);
        w.step(w.job(1, 1), 0, 4, 0);
        w.step(w.job(2, 1), 1, 3, 0);
        w.step(1, 0, 2, 0);
        w.step(w.job(3, 1), 0, 1, 9);
        w.job(4, 1);
        w.run(1);
        Shops.isAt("planned", w, 2, 4, 0);
        Shops.isAt("planned", w, 3, 6, 0);
        Expect.answers("the first stays", 4, () -> w.promise(0));
        Expect.answers("the second stays", 6, () -> w.promise(1));
        Expect.answers("the third stays", 7, () -> w.promise(2));
        Expect.answers("no steps", 0, () -> w.promise(3));
        Shops.isAt("the plan stays", w, 3, 6, 0);

        WorkPlans behind = new WorkPlans(0);
        behind.machine(0);
        behind.machine(1);
        behind.step(behind.job(0, 1), 1, 5, 0);
        behind.step(behind.job(1, 1), 1, 1, 0);
        behind.step(1, 0, 1, 0);
        behind.step(behind.job(2, 1), 0, 7, 0);
        behind.run(1);
        Shops.isAt("a job that had to go behind", behind, 3, 7, 0);
        Shops.isAt("a gap that it could not use", behind, 2, 6, 0);
        Expect.answers("it stays behind what is placed", 14, () -> behind.promise(2));
        Expect.answers("its own hours are free for it", 7, () -> behind.promise(1));
    }

    private static void promise13Refusals() {
        WorkPlans w = Shops.oneMachine(1, 9, 2, 1);
        for (int job : new int[] {-1, 2, 6, LOW, HIGH}) {
            Expect.refuses("promise(" + job + ") without a plan", INDEX, () -> w.promise(job));
        }
        Expect.refuses("no plan", STATE, () -> w.promise(0));
        staleByEachTelling("promise", () -> 10, w, () -> w.promise(1));
    }

    private static void promise14Clash() {
        WorkPlans w = Shops.oneMachine(4, 3, 4, 2, 5, 2, 6, 3, 2, 3);
        Expect.answers("3 and 2 hours, both due at 4", 1, () -> w.clash(0));
        Expect.answers("3 and 2 hours by 4 and 5, 3 and 3 by 6: none", WorkPlans.NONE, () -> w.clash(1));
        Expect.answers("jobs that are late alone do not clash", WorkPlans.NONE, () -> w.clash(HIGH));
        w.due(4, 3);
        Expect.answers("clash 0", 1, () -> w.clash(0));
        Expect.answers("clash 1", 4, () -> w.clash(1));
        Expect.answers("clash 2", 8 * 1 + 4, () -> w.clash(2));
        Expect.answers("no clash 3", WorkPlans.NONE, () -> w.clash(3));
        w.due(2, 4);
        Expect.answers("by the lesser, then by the other: 0", 1, () -> w.clash(0));
        Expect.answers("by the lesser, then by the other: 1", 2, () -> w.clash(1));
        Expect.answers("by the lesser, then by the other: 2", 4, () -> w.clash(2));
        Expect.answers("by the lesser, then by the other: 3", 8 + 4, () -> w.clash(3));
        Expect.answers("by the lesser, then by the other: 4", 8 * 2 + 4, () -> w.clash(4));
        Expect.answers("by the lesser, then by the other: 5", WorkPlans.NONE, () -> w.clash(5));
        w.machine(0);
        Expect.answers("a machine each", WorkPlans.NONE, () -> w.clash(0));
    }

    private static void promise14Edges() {
        WorkPlans w = Shops.oneMachine(4, 4, 4, 4);
        Expect.answers("a clash without a plan", 1, () -> w.clash(0));
        Expect.refuses("below 0", ARGUMENT, () -> w.clash(-1));
        w.step(w.job(0, 0), 0, 9, 0);
        Expect.answers("no weight, no clash", WorkPlans.NONE, () -> w.clash(1));
        w.job(0, 9);
        Expect.answers("no steps, no clash", WorkPlans.NONE, () -> w.clash(1));
        w.run(2000);
        w.step(3, 2, 1, 0);
        Expect.refuses("a job does not fit", STATE, () -> w.clash(0));
        Expect.refuses("below 0 first", ARGUMENT, () -> w.clash(LOW));
    }

    private static void promise15Check() {
        WorkPlans w = Shops.oneMachine(4, 4, 8, 4);
        Expect.refuses("no plan", STATE, w::check);
        w.run(9);
        Expect.answers("ends at due", 0, w::check);
        w.due(1, 7);
        Expect.answers("an end behind due", 501, w::check);
        w.due(0, 3);
        Expect.answers("the lesser job", 500, w::check);
        w.out(0, 8, 9);
        Expect.answers("a span behind all", 500, w::check);
        w.out(0, 7, 8);
        Expect.answers("a span in the second", 401, w::check);
        w.out(0, 3, 4);
        Expect.answers("a span in both", 400, w::check);
        w.job(0, 1);
        Expect.answers("a job without steps", 400, w::check);
        w.step(2, 3, 1, 0);
        Expect.answers("a step that is not in the plan", 102, w::check);

        WorkPlans light = new WorkPlans(0);
        light.machine(0);
        light.step(light.job(0, 0), 0, 2, 0);
        light.run(1);
        Expect.answers("behind due without weight", 500, light::check);
    }

    private static void promise15RulesApart() {
        WorkPlans w = Shops.oneMachine(4, 4, 3, 4);
        w.run(9);
        w.out(0, 0, 1);
        w.step(0, 0, 1, 0);
        w.step(0, 0, 1, 0);
        Expect.answers("rule 1 for all steps before rule 4 for one", 102, w::check);
        w.run(9);
        Expect.answers("then the jobs", 500, w::check);
        w.machine(0);
        Expect.answers("a machine breaks nothing", 500, w::check);
    }

    /** Six jobs of four steps, six machines of eight spans: every row is full. */
    private static void fullShop() {
        WorkPlans w = new WorkPlans(HIGH);
        for (int m = 0; m < 6; m++) {
            w.machine(0);
            for (int i = 0; i < 8; i++) {
                w.out(m, 100 * i, 100 * i + 99);
            }
        }
        for (int s = 0; s < 24; s++) {
            int job = s % 6;
            if (s < 6) {
                w.job(s, 100);
            }
            w.step(job, 0, 100, 100);
        }
        Expect.answers("full: run", 0, () -> w.run(2000));
        Expect.answers("full: one machine each", 6 * 100 * 1499 - 100 * 15, () -> w.about(0));
        Expect.answers("full: bound", w.about(0), () -> w.about(1));
        Shops.isAt("full: last step", w, 23, 1399, 5);
        Expect.answers("full: promise", 1499, () -> w.promise(5));
        Expect.answers("full: improve", 0, () -> w.improve(100));
        Expect.answers("full: check", 500, w::check);

        WorkPlans one = new WorkPlans(LOW);
        one.machine(0);
        for (int i = 0; i < 8; i++) {
            one.out(0, 2 * i, 2 * i + 1);
        }
        for (int job = 0; job < 6; job++) {
            one.job(10000, 100);
            for (int i = 0; i < 4; i++) {
                one.step(job, 0, 2, 0);
            }
        }
        one.run(2000);
        Shops.isAt("one machine: the last of 24", one, 23, 15 + 46, 0);
        Expect.answers("one machine: promise", 15 + 48, () -> one.promise(5));
    }
}
