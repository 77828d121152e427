/** Each sentence of the promises' own sections, at its edges: too small, too large, empty, full, refused. */
public final class PromiseBoundariesTest {
    private static final Class<IndexOutOfBoundsException> INDEX = Expect.INDEX;
    private static final Class<IllegalArgumentException> ARGUMENT = Expect.ARGUMENT;
    private static final Class<IllegalStateException> STATE = Expect.STATE;
    private static final int LOW = Shops.LOW;
    private static final int HIGH = Shops.HIGH;
    private static final int NONE = WorkPlans.NONE;

    public static void main(String[] args) {
        Sentences document = new Sentences("Promise ");
        tellings(document);
        plans(document);
        questions(document);
        document.end("PromiseBoundariesTest");
    }

    private static void tellings(Sentences d) {
        d.promise(1, "A SEED.", PromiseBoundariesTest::anySeed);

        d.promise(2, "A MACHINE more: its number.", PromiseBoundariesTest::machineNumbers);
        d.promise(2, "IllegalArgumentException: kind is not 0 .. 3;", PromiseBoundariesTest::machineKinds);
        d.promise(2, "IllegalStateException: there are 6.", PromiseBoundariesTest::seventhMachine);

        d.promise(3, "A machine is OUT from an hour up to another one (not with it):", PromiseBoundariesTest::outHours);
        d.promise(3, "how many spans it has.", PromiseBoundariesTest::spanCounts);
        d.promise(3, "IndexOutOfBoundsException;", PromiseBoundariesTest::outOfNoMachine);
        d.promise(3, "IllegalArgumentException: from is not 0 .. 1000,", PromiseBoundariesTest::outFrom);
        d.promise(3, "or to not above it,", PromiseBoundariesTest::outToNotAbove);
        d.promise(3, "or above 2000;", PromiseBoundariesTest::outToTooLarge);
        d.promise(3, "IllegalStateException: there are 8.", PromiseBoundariesTest::ninthSpan);

        d.promise(4, "A JOB more: its number.", PromiseBoundariesTest::jobNumbers);
        d.promise(4, "IllegalArgumentException: due is not 0 .. 10000,", PromiseBoundariesTest::jobDue);
        d.promise(4, "or weight not 0 .. 100;", PromiseBoundariesTest::jobWeight);
        d.promise(4, "IllegalStateException: there are 6.", PromiseBoundariesTest::seventhJob);

        d.promise(5, "Another DUE hour.", PromiseBoundariesTest::anotherDue);
        d.promise(5, "IndexOutOfBoundsException;", PromiseBoundariesTest::dueOfNoJob);
        d.promise(5, "IllegalArgumentException.", PromiseBoundariesTest::dueOutside);

        d.promise(6, "A STEP more of a job: its number.", PromiseBoundariesTest::stepNumbers);
        d.promise(6, "IndexOutOfBoundsException;", PromiseBoundariesTest::stepOfNoJob);
        d.promise(6, "IllegalArgumentException: kind is not 0 .. 3,", PromiseBoundariesTest::stepKind);
        d.promise(6, "hours not 1 .. 100,", PromiseBoundariesTest::stepHours);
        d.promise(6, "or wait not 0 .. 100;", PromiseBoundariesTest::stepWait);
        d.promise(6, "IllegalStateException: the job has 4.", PromiseBoundariesTest::fifthStep);
    }

    private static void plans(Sentences d) {
        d.promise(7, "RUN.", PromiseBoundariesTest::runs);
        d.promise(7, "IllegalArgumentException: nodes are not 1 .. 2000;", PromiseBoundariesTest::runNodes);
        d.promise(7, "IllegalStateException: there are no jobs,", PromiseBoundariesTest::runWithoutJobs);
        d.promise(7, "or one does not FIT.", PromiseBoundariesTest::runWithoutFit);

        d.promise(8, "IMPROVED n times: how often the COST was less.", PromiseBoundariesTest::improveCounts);
        d.promise(8, "IllegalArgumentException: n is not 0 .. 100;", PromiseBoundariesTest::improveTimes);
        d.promise(8, "IllegalStateException: no PLAN,", PromiseBoundariesTest::improveWithoutPlan);
        d.promise(8, "or something was told since that one (a machine, a span, a job, a DUE hour, a step).",
            PromiseBoundariesTest::improveToldSince);
    }

    private static void questions(Sentences d) {
        d.promise(9, "Of a STEP in the PLAN: the hour in which it begins (what = 0), the machine (1);",
            PromiseBoundariesTest::atFirstAndLast);
        d.promise(9, "NONE if it was told behind the PLAN.", PromiseBoundariesTest::atToldBehind);
        d.promise(9, "IndexOutOfBoundsException;", PromiseBoundariesTest::atNoStepOrWhat);
        d.promise(9, "IllegalStateException: no PLAN.", PromiseBoundariesTest::atWithoutPlan);

        d.promise(10, "The job at place k of the PLAN's ORDER.", PromiseBoundariesTest::orderPlaces);
        d.promise(10, "IllegalStateException (first);", PromiseBoundariesTest::orderWithoutPlan);
        d.promise(10, "IndexOutOfBoundsException.", PromiseBoundariesTest::orderNoPlace);

        d.promise(11, "Of the latest RUN or IMPROVED: the PLAN's COST (what = 0),", PromiseBoundariesTest::aboutCost);
        d.promise(11, "the BOUND (1),", PromiseBoundariesTest::aboutBound);
        d.promise(11, "NODES of the latest RUN (2),", PromiseBoundariesTest::aboutNodes);
        d.promise(11, "how many STEPS have another hour or machine than in the PLAN before,",
            PromiseBoundariesTest::aboutMoved);
        d.promise(11, "or were in none (3).", PromiseBoundariesTest::aboutNew);
        d.promise(11, "IndexOutOfBoundsException;", PromiseBoundariesTest::aboutNoWhat);
        d.promise(11, "IllegalStateException: no PLAN.", PromiseBoundariesTest::aboutWithoutPlan);

        d.promise(12, "ALONE of a job, as things are.", PromiseBoundariesTest::aloneAsThingsAre);
        d.promise(12, "IndexOutOfBoundsException;", PromiseBoundariesTest::aloneOfNoJob);
        d.promise(12, "IllegalStateException: it does not FIT.", PromiseBoundariesTest::aloneWithoutFit);

        d.promise(13, "A PROMISE.", PromiseBoundariesTest::promiseFirstAndLast);
        d.promise(13, "IndexOutOfBoundsException;", PromiseBoundariesTest::promiseOfNoJob);
        d.promise(13, "IllegalStateException: no PLAN,", PromiseBoundariesTest::promiseWithoutPlan);
        d.promise(13, "or something was told since (as improve()).", PromiseBoundariesTest::promiseToldSince);

        d.promise(14, "CLASH k as 8 times the lesser job and the other one;", PromiseBoundariesTest::clashFirstAndLast);
        d.promise(14, "NONE if there are not so many.", PromiseBoundariesTest::clashTooMany);
        d.promise(14, "IllegalArgumentException: k is below 0;", PromiseBoundariesTest::clashBelow);
        d.promise(14, "IllegalStateException: a job does not FIT.", PromiseBoundariesTest::clashWithoutFit);

        d.promise(15, "0, or 100 times the RULE and the STEP", PromiseBoundariesTest::checkSteps);
        d.promise(15, "(of rule 5: the job) that breaks it.", PromiseBoundariesTest::checkJobs);
        d.promise(15, "IllegalStateException: no PLAN.", PromiseBoundariesTest::checkWithoutPlan);
    }

    private static void anySeed() {
        String empty = Shops.allAnswers(new WorkPlans(0));
        for (int seed : new int[] {1, -1, LOW, LOW + 1, HIGH - 1, HIGH}) {
            Expect.same("seed " + seed + ", empty", empty, Shops.allAnswers(new WorkPlans(seed)));
            Expect.answers("seed " + seed + ", first machine", 0, () -> new WorkPlans(seed).machine(0));
            Expect.answers("seed " + seed + ", first job", 0, () -> new WorkPlans(seed).job(0, 0));
        }
    }

    private static void machineNumbers() {
        WorkPlans w = new WorkPlans(0);
        WorkPlans other = new WorkPlans(0);
        for (int i = 0; i < 6; i++) {
            int number = i;
            Expect.answers("machine " + i, number, () -> w.machine(0));
        }
        Expect.answers("another object begins at 0", 0, () -> other.machine(3));
    }

    private static void machineKinds() {
        WorkPlans w = new WorkPlans(0);
        Expect.refusesEach("kind", ARGUMENT, w::machine, -1, 4, 5, LOW, HIGH);
        Expect.answers("the least kind", 0, () -> w.machine(0));
        Expect.answers("the largest kind", 1, () -> w.machine(3));
    }

    private static void seventhMachine() {
        WorkPlans w = new WorkPlans(0);
        for (int i = 0; i < 5; i++) {
            w.machine(i % 4);
        }
        Expect.answers("the last that there is room for", 5, () -> w.machine(3));
        Expect.refusesEach("a seventh, of kind", STATE, w::machine, 0, 1, 2, 3);
        Expect.answers("the sixth can be used", 1, () -> w.out(5, 0, 1));
        Expect.refuses("there is no seventh", INDEX, () -> w.out(6, 0, 1));
    }

    private static void outHours() {
        WorkPlans before = Shops.oneMachine(0, 3);
        before.out(0, 3, 4);
        Expect.answers("a step up to the hour from", 3, () -> before.alone(0));
        WorkPlans shares = Shops.oneMachine(0, 3);
        shares.out(0, 2, 7);
        Expect.answers("not with to", 7 + 3, () -> shares.alone(0));
        WorkPlans first = Shops.oneMachine(0, 1);
        first.out(0, 0, 1);
        Expect.answers("the hour 0 alone", 1 + 1, () -> first.alone(0));
        WorkPlans longest = Shops.oneMachine(0, 1);
        longest.out(0, 0, 2000);
        Expect.answers("the longest span", 2000 + 1, () -> longest.alone(0));
        WorkPlans latest = Shops.oneMachine(0, 100);
        latest.out(0, 0, 1000);
        latest.out(0, 1000, 2000);
        Expect.answers("the latest hours", 2000 + 100, () -> latest.alone(0));
    }

    private static void spanCounts() {
        WorkPlans w = new WorkPlans(0);
        w.machine(0);
        w.machine(0);
        for (int i = 1; i <= 8; i++) {
            int count = i;
            Expect.answers("span " + i + " of the first, the same again", count, () -> w.out(0, 5, 6));
        }
        Expect.answers("the first of the second", 1, () -> w.out(1, 5, 6));
    }

    private static void outOfNoMachine() {
        WorkPlans w = new WorkPlans(0);
        Expect.refusesEach("no machines, machine", INDEX, m -> w.out(m, 0, 1), -1, 0, LOW, HIGH);
        w.machine(0);
        w.machine(1);
        Expect.refusesEach("two machines, machine", INDEX, m -> w.out(m, 0, 1), -1, 2, 5, 6, LOW, HIGH);
        Expect.answers("the last machine", 1, () -> w.out(1, 0, 1));
    }

    private static void outFrom() {
        WorkPlans w = new WorkPlans(0);
        w.machine(0);
        Expect.refusesEach("from", ARGUMENT, from -> w.out(0, from, 2000), -1, 1001, 1999, LOW, HIGH);
        Expect.answers("the least from", 1, () -> w.out(0, 0, 2000));
        Expect.answers("the largest from", 2, () -> w.out(0, 1000, 2000));
    }

    private static void outToNotAbove() {
        WorkPlans w = new WorkPlans(0);
        w.machine(0);
        Expect.refusesEach("from 0 to", ARGUMENT, to -> w.out(0, 0, to), 0, -1, LOW);
        Expect.refusesEach("from 7 to", ARGUMENT, to -> w.out(0, 7, to), 7, 6, 0, LOW);
        Expect.refusesEach("from 1000 to", ARGUMENT, to -> w.out(0, 1000, to), 1000, 999);
        Expect.answers("from 0 to 1", 1, () -> w.out(0, 0, 1));
        Expect.answers("from 7 to 8", 2, () -> w.out(0, 7, 8));
        Expect.answers("from 1000 to 1001", 3, () -> w.out(0, 1000, 1001));
    }

    private static void outToTooLarge() {
        WorkPlans w = new WorkPlans(0);
        w.machine(0);
        Expect.refusesEach("from 0 to", ARGUMENT, to -> w.out(0, 0, to), 2001, 2002, HIGH);
        Expect.refusesEach("from 1000 to", ARGUMENT, to -> w.out(0, 1000, to), 2001, HIGH);
        Expect.answers("the largest to", 1, () -> w.out(0, 1000, 2000));
    }

    private static void ninthSpan() {
        WorkPlans w = Shops.oneMachine(0, 1);
        w.machine(0);
        for (int i = 0; i < 7; i++) {
            w.out(0, i, i + 1);
        }
        Expect.answers("the last that there is room for", 8, () -> w.out(0, 7, 8));
        Expect.refuses("a ninth", STATE, () -> w.out(0, 8, 9));
        Expect.refuses("a ninth like the first", STATE, () -> w.out(0, 0, 1));
        Expect.answers("the other machine has room", 1, () -> w.out(1, 0, 100));
        w.run(1);
        Shops.isAt("the eighth counts, the ninth does not", w, 0, 8, 0);
    }

    private static void jobNumbers() {
        WorkPlans w = new WorkPlans(0);
        WorkPlans other = new WorkPlans(0);
        for (int i = 0; i < 6; i++) {
            int number = i;
            Expect.answers("job " + i, number, () -> w.job(0, 1));
        }
        Expect.answers("another object begins at 0", 0, () -> other.job(0, 1));
    }

    private static void jobDue() {
        WorkPlans w = new WorkPlans(0);
        Expect.refusesEach("due", ARGUMENT, due -> w.job(due, 1), -1, 10001, LOW, HIGH);
        Expect.answers("the least due", 0, () -> w.job(0, 1));
        Expect.answers("the largest due", 1, () -> w.job(10000, 1));
    }

    private static void jobWeight() {
        WorkPlans w = new WorkPlans(0);
        Expect.refusesEach("weight", ARGUMENT, weight -> w.job(0, weight), -1, 101, LOW, HIGH);
        Expect.answers("the least weight", 0, () -> w.job(0, 0));
        Expect.answers("the largest weight", 1, () -> w.job(0, 100));
        w.machine(0);
        w.step(0, 0, 100, 0);
        w.step(1, 0, 100, 0);
        Expect.answers("weight 0", 0, () -> w.alone(0));
        Expect.answers("weight 100", 100 * 100, () -> w.alone(1));
    }

    private static void seventhJob() {
        WorkPlans w = new WorkPlans(0);
        for (int i = 0; i < 5; i++) {
            w.job(0, 1);
        }
        Expect.answers("the last that there is room for", 5, () -> w.job(0, 1));
        Expect.refuses("a seventh", STATE, () -> w.job(0, 1));
        Expect.refuses("a seventh with the largest numbers", STATE, () -> w.job(10000, 100));
        Expect.answers("the sixth can be used", 0, () -> w.step(5, 0, 1, 0));
        Expect.refuses("there is no seventh", INDEX, () -> w.step(6, 0, 1, 0));
    }

    private static void anotherDue() {
        WorkPlans w = Shops.oneMachine(50, 3, 50, 3);
        Expect.answers("due(0, 0)", 0, () -> Shops.tellDue(w, 0, 0));
        Expect.answers("the least due", 3, () -> w.alone(0));
        Expect.answers("the other job's is as before", 0, () -> w.alone(1));
        Expect.answers("due(0, 2)", 0, () -> Shops.tellDue(w, 0, 2));
        Expect.answers("an hour before the end", 1, () -> w.alone(0));
        Expect.answers("due(0, 3)", 0, () -> Shops.tellDue(w, 0, 3));
        Expect.answers("at the end", 0, () -> w.alone(0));
        Expect.answers("due(1, 0)", 0, () -> Shops.tellDue(w, 1, 0));
        w.run(1);
        Shops.orderIs("the plan goes by it", w, 1, 0);
    }

    private static void dueOfNoJob() {
        WorkPlans w = new WorkPlans(0);
        Expect.refusesEach("no jobs, job", INDEX, job -> Shops.tellDue(w, job, 0), -1, 0, LOW, HIGH);
        w.job(0, 1);
        w.job(0, 1);
        Expect.refusesEach("two jobs, job", INDEX, job -> Shops.tellDue(w, job, 0), -1, 2, 5, 6, LOW, HIGH);
        Expect.answers("the last job", 0, () -> Shops.tellDue(w, 1, 0));
    }

    private static void dueOutside() {
        WorkPlans w = new WorkPlans(0);
        w.job(5, 1);
        Expect.refusesEach("due", ARGUMENT, due -> Shops.tellDue(w, 0, due), -1, 10001, LOW, HIGH);
        Expect.answers("the least", 0, () -> Shops.tellDue(w, 0, 0));
        Expect.answers("the largest", 0, () -> Shops.tellDue(w, 0, 10000));
    }

    private static void stepNumbers() {
        WorkPlans w = new WorkPlans(0);
        for (int i = 0; i < 6; i++) {
            w.job(0, 1);
        }
        for (int i = 0; i < 24; i++) {
            int number = i;
            Expect.answers("step " + i, number, () -> w.step(5 - number % 6, 0, 1, 0));
        }
    }

    private static void stepOfNoJob() {
        WorkPlans w = new WorkPlans(0);
        Expect.refusesEach("no jobs, job", INDEX, job -> w.step(job, 0, 1, 0), -1, 0, LOW, HIGH);
        w.job(0, 1);
        w.job(0, 1);
        Expect.refusesEach("two jobs, job", INDEX, job -> w.step(job, 0, 1, 0), -1, 2, 5, 6, LOW, HIGH);
        Expect.answers("the last job", 0, () -> w.step(1, 0, 1, 0));
    }

    private static void stepKind() {
        WorkPlans w = new WorkPlans(0);
        w.job(0, 1);
        Expect.refusesEach("kind", ARGUMENT, kind -> w.step(0, kind, 1, 0), -1, 4, 5, LOW, HIGH);
        Expect.answers("the least kind", 0, () -> w.step(0, 0, 1, 0));
        Expect.answers("the largest kind", 1, () -> w.step(0, 3, 1, 0));
    }

    private static void stepHours() {
        WorkPlans w = new WorkPlans(0);
        w.machine(0);
        w.job(0, 1);
        w.job(0, 1);
        Expect.refusesEach("hours", ARGUMENT, hours -> w.step(0, 0, hours, 0), 0, -1, 101, LOW, HIGH);
        Expect.answers("the fewest hours", 0, () -> w.step(0, 0, 1, 0));
        Expect.answers("the most hours", 1, () -> w.step(1, 0, 100, 0));
        Expect.answers("the fewest count", 1, () -> w.alone(0));
        Expect.answers("the most count", 100, () -> w.alone(1));
    }

    private static void stepWait() {
        WorkPlans w = new WorkPlans(0);
        w.machine(0);
        w.job(0, 1);
        w.job(0, 1);
        Expect.refusesEach("wait", ARGUMENT, wait -> w.step(0, 0, 1, wait), -1, 101, LOW, HIGH);
        Expect.answers("the least wait", 0, () -> w.step(0, 0, 1, 0));
        Expect.answers("the longest wait", 1, () -> w.step(1, 0, 1, 100));
        w.step(0, 0, 1, 0);
        w.step(1, 0, 1, 0);
        Expect.answers("the least counts", 1 + 1, () -> w.alone(0));
        Expect.answers("the longest counts", 1 + 100 + 1, () -> w.alone(1));
    }

    private static void fifthStep() {
        WorkPlans w = new WorkPlans(0);
        w.machine(0);
        w.job(0, 1);
        w.job(0, 1);
        for (int i = 0; i < 3; i++) {
            w.step(0, 0, 1, 0);
        }
        Expect.answers("the last that there is room for", 3, () -> w.step(0, 0, 1, 0));
        Expect.refuses("a fifth", STATE, () -> w.step(0, 0, 1, 0));
        Expect.refuses("a fifth with the largest numbers", STATE, () -> w.step(0, 3, 100, 100));
        Expect.answers("four count", 4, () -> w.alone(0));
        Expect.answers("the other job has room, and the number was not used", 4, () -> w.step(1, 0, 1, 0));
    }

    private static void runs() {
        WorkPlans one = Shops.oneMachine(0, 5);
        Expect.answers("one job needs one node", 0, () -> one.run(1));
        Shops.aboutIs("one job", one, 5, 5, 1, 1);
        WorkPlans none = new WorkPlans(0);
        none.job(0, 100);
        Expect.answers("one job without steps or machines", 0, () -> none.run(1));
        Shops.aboutIs("one job without steps", none, 0, 0, 1, 0);
        WorkPlans full = Shops.full(0);
        Expect.answers("a full shop", 0, () -> full.run(2000));
        Expect.answers("again, with as many nodes", 0, () -> full.run((int) full.about(2)));
    }

    private static void runNodes() {
        WorkPlans w = Shops.oneMachine(0, 1, 0, 1);
        Expect.refusesEach("nodes", ARGUMENT, w::run, 0, -1, 2001, LOW, HIGH);
        Expect.answers("the fewest", 1, () -> w.run(1));
        Expect.answers("the most", 0, () -> w.run(2000));
    }

    private static void runWithoutJobs() {
        WorkPlans w = new WorkPlans(0);
        Expect.refuses("nothing told", STATE, () -> w.run(1));
        w.machine(0);
        Expect.refuses("a machine, no job", STATE, () -> w.run(2000));
        w.job(0, 0);
        Expect.answers("a job", 0, () -> w.run(1));
    }

    private static void runWithoutFit() {
        for (int job = 0; job < 6; job++) {
            WorkPlans w = Shops.oneMachine(9, 1, 9, 1, 9, 1, 9, 1, 9, 1, 9, 1);
            w.step(job, 1, 1, 0);
            Expect.refuses("job " + job + " of six does not fit", STATE, () -> w.run(2000));
            Expect.refuses("so there is no plan", STATE, () -> w.order(0));
            w.machine(1);
            Expect.answers("now it fits", 0, () -> w.run(2000));
        }
    }

    private static void improveCounts() {
        WorkPlans one = Shops.oneMachine(0, 5);
        one.run(1);
        Expect.answers("one job has no change", 0, () -> one.improve(100));
        WorkPlans two = Shops.oneMachine(1, 9, 2, 1);
        two.run(1);
        Expect.answers("not once of none", 0, () -> two.improve(0));
        Shops.orderIs("none", two, 0, 1);
        Expect.answers("once of a hundred", 1, () -> two.improve(100));
        Expect.answers("not once of a hundred more", 0, () -> two.improve(100));
        WorkPlans even = Shops.oneMachine(1, 3, 1, 3);
        even.run(1);
        Expect.answers("equal costs are not less", 0, () -> even.improve(100));
        Shops.orderIs("equal costs", even, 0, 1);
    }

    private static void improveTimes() {
        WorkPlans w = Shops.oneMachine(1, 9, 2, 1);
        w.run(1);
        Expect.refusesEach("n", ARGUMENT, w::improve, -1, 101, LOW, HIGH);
        Expect.answers("the fewest", 0, () -> w.improve(0));
        Expect.answers("the most", 1, () -> w.improve(100));
    }

    private static void improveWithoutPlan() {
        WorkPlans w = new WorkPlans(0);
        Expect.refuses("nothing told", STATE, () -> w.improve(0));
        w.job(0, 1);
        Expect.refusesEach("a job, no run: n", STATE, w::improve, 0, 1, 100);
        Expect.told(() -> w.run(0));
        Expect.refuses("a refused run makes no plan", STATE, () -> w.improve(0));
        w.run(1);
        Expect.answers("a plan", 0, () -> w.improve(0));
    }

    private static void improveToldSince() {
        WorkPlans w = Shops.oneMachine(1, 9, 2, 1);
        staleByEachTelling(w, () -> w.improve(0), 0);
    }

    /** Each thing told makes a call throw until the next run, and what is told in vain does not. */
    private static void staleByEachTelling(WorkPlans w, Expect.Call call, long due) {
        String[] names = {"a machine", "a span", "a job", "a DUE hour", "the same DUE hour", "a step"};
        Expect.Call[] tellings = {() -> w.machine(3), () -> w.out(0, 900, 901), () -> w.job(10000, 0),
            () -> Shops.tellDue(w, 2, 9999), () -> Shops.tellDue(w, 2, 9999), () -> w.step(2, 3, 1, 0)};
        Expect.Call[] refused = {() -> w.machine(4), () -> w.out(9, 0, 1), () -> w.out(0, 5, 5), () -> w.job(0, 101),
            () -> Shops.tellDue(w, 9, 1), () -> Shops.tellDue(w, 0, -1), () -> w.step(9, 0, 1, 0),
            () -> w.step(0, 0, 0, 0), () -> w.run(0), () -> w.improve(101)};
        for (int i = 0; i < names.length; i++) {
            w.run(1);
            for (Expect.Call one : refused) {
                Expect.told(one);
            }
            Expect.answers("before " + names[i], due, call);
            tellings[i].answer();
            Expect.refuses("behind " + names[i], STATE, call);
            Expect.refuses("a refused run helps nothing", ARGUMENT, () -> w.run(2001));
            Expect.refuses("still behind " + names[i], STATE, call);
        }
        w.run(1);
        Expect.answers("behind a run", due, call);
    }

    private static void atFirstAndLast() {
        WorkPlans w = new WorkPlans(0);
        for (int m = 0; m < 6; m++) {
            w.machine(m == 5 ? 3 : 0);
        }
        for (int i = 0; i < 24; i++) {
            if (i % 4 == 0) {
                w.job(0, 1);
            }
            w.step(i / 4, i == 23 ? 3 : 0, 100, i == 22 ? 100 : 0);
        }
        w.out(5, 0, 2000);
        w.run(1);
        Shops.isAt("the first step", w, 0, 0, 0);
        Shops.isAt("the last of 24, on the last machine", w, 23, 2000, 5);
    }

    private static void atToldBehind() {
        WorkPlans w = new WorkPlans(0);
        w.machine(0);
        w.job(0, 1);
        w.run(1);
        w.step(0, 0, 1, 0);
        Shops.isAt("the plan has no step", w, 0, NONE, NONE);
        w.run(1);
        Shops.isAt("planned", w, 0, 0, 0);
        w.step(w.job(0, 1), 0, 1, 0);
        Shops.isAt("planned as before", w, 0, 0, 0);
        Shops.isAt("of a job told behind it", w, 1, NONE, NONE);
        w.step(0, 2, 1, 0);
        Shops.isAt("without a machine", w, 2, NONE, NONE);
        Expect.refuses("a run that is refused", STATE, () -> w.run(1));
        Shops.isAt("told behind the plan all the same", w, 1, NONE, NONE);
    }

    private static void atNoStepOrWhat() {
        WorkPlans w = new WorkPlans(0);
        w.machine(0);
        w.job(0, 1);
        w.run(1);
        Expect.refusesEach("no steps, step", INDEX, step -> w.at(step, 0), -1, 0, LOW, HIGH);
        w.step(0, 0, 1, 0);
        w.step(0, 0, 1, 0);
        w.run(1);
        Expect.refusesEach("two steps, step", INDEX, step -> w.at(step, 0), -1, 2, 23, 24, LOW, HIGH);
        Expect.refusesEach("what", INDEX, what -> w.at(1, what), -1, 2, 3, LOW, HIGH);
        w.step(0, 0, 1, 0);
        Expect.refusesEach("told behind the plan, what", INDEX, what -> w.at(2, what), -1, 2, LOW, HIGH);
        Shops.isAt("the last step", w, 1, 1, 0);
    }

    private static void atWithoutPlan() {
        WorkPlans w = Shops.oneMachine(0, 1);
        Expect.refuses("what 0", STATE, () -> w.at(0, 0));
        Expect.refuses("what 1", STATE, () -> w.at(0, 1));
    }

    private static void orderPlaces() {
        WorkPlans w = Shops.oneMachine(6, 1, 5, 1, 4, 1, 3, 1, 2, 1, 1, 1);
        w.run(1);
        Shops.orderIs("six places", w, 5, 4, 3, 2, 1, 0);
        WorkPlans one = Shops.oneMachine(0, 1);
        one.run(1);
        Shops.orderIs("one place", one, 0);
    }

    private static void orderWithoutPlan() {
        WorkPlans w = new WorkPlans(0);
        Expect.refusesEach("nothing told, place", STATE, w::order, 0, -1, 6, LOW, HIGH);
        w.job(0, 1);
        Expect.refusesEach("a job, no run: place", STATE, w::order, 0, -1, 1, LOW, HIGH);
    }

    private static void orderNoPlace() {
        WorkPlans w = Shops.oneMachine(0, 1, 0, 1);
        w.run(1);
        Expect.refusesEach("place", INDEX, w::order, -1, 2, 5, 6, LOW, HIGH);
        w.job(0, 1);
        Expect.refuses("a job told since has no place", INDEX, () -> w.order(2));
        w.run(1);
        Expect.answers("it has one behind a run", 2, () -> w.order(2));
    }

    private static void aboutCost() {
        WorkPlans w = Shops.oneMachine(1, 9, 2, 1);
        w.run(1);
        Expect.answers("of the run", 8 + 8, () -> w.about(0));
        w.improve(0);
        Expect.answers("of no change", 8 + 8, () -> w.about(0));
        w.improve(100);
        Expect.answers("of improve", 9, () -> w.about(0));
        w.due(0, 10000);
        w.out(0, 0, 2000);
        Expect.answers("not of what is told since", 9, () -> w.about(0));
        w.run(2000);
        Expect.answers("of the next run", 2000 + 1 - 2, () -> w.about(0));

        WorkPlans most = new WorkPlans(0);
        most.machine(0);
        most.out(0, 0, 1000);
        most.out(0, 1000, 2000);
        for (int i = 0; i < 24; i++) {
            if (i % 4 == 0) {
                most.job(0, 100);
            }
            most.step(i / 4, 0, 100, 100);
        }
        most.run(1);
        // The jobs go between one another's waits: two by two they end 700 and 800 hours behind the first's begin.
        Expect.answers("full of long steps", 100L * (6 * 2000 + (700 + 800) * 3 + (0 + 800 + 1600) * 2), () -> most.about(0));
        Expect.answers("its bound", 100L * 6 * 2700, () -> most.about(1));
    }

    private static void aboutBound() {
        WorkPlans w = Shops.oneMachine(1, 9, 2, 1);
        w.run(1);
        Expect.answers("of the run", 8 + 0, () -> w.about(1));
        w.improve(100);
        Expect.answers("of improve", 8 + 0, () -> w.about(1));
        w.due(1, 0);
        Expect.answers("not of what is told since", 8 + 0, () -> w.about(1));
        w.run(1);
        Expect.answers("of the next run", 8 + 1, () -> w.about(1));
        w.due(0, 9);
        w.due(1, 1);
        w.run(1);
        Expect.answers("none is late alone", 0, () -> w.about(1));
    }

    private static void aboutNodes() {
        WorkPlans w = Shops.oneMachine(4, 4, 5, 2);
        w.run(2000);
        Expect.answers("fewer than told", 4, () -> w.about(2));
        w.run(4);
        Expect.answers("as many as told", 4, () -> w.about(2));
        w.run(3);
        Expect.answers("one more would be too many", 3, () -> w.about(2));
        w.run(1);
        Expect.answers("the fewest", 1, () -> w.about(2));
        w.improve(100);
        Expect.answers("improve has none", 1, () -> w.about(2));
    }

    private static void aboutMoved() {
        WorkPlans hour = Shops.oneMachine(0, 5);
        hour.run(1);
        hour.out(0, 0, 1);
        hour.run(1);
        Expect.answers("another hour alone", 1, () -> hour.about(3));
        hour.run(1);
        Expect.answers("the same again", 0, () -> hour.about(3));

        WorkPlans machine = Shops.oneMachine(1, 5, 2, 5);
        machine.machine(0);
        machine.run(1);
        machine.due(0, 3);
        machine.run(1);
        Shops.isAt("the first on the other machine", machine, 0, 0, 1);
        Expect.answers("another machine alone", 2, () -> machine.about(3));

        WorkPlans improved = Shops.oneMachine(1, 9, 2, 1);
        improved.run(1);
        improved.improve(100);
        Expect.answers("improved", 2, () -> improved.about(3));
        improved.improve(0);
        Expect.answers("improved not once", 0, () -> improved.about(3));
    }

    private static void aboutNew() {
        WorkPlans w = new WorkPlans(0);
        w.machine(0);
        w.job(0, 1);
        w.run(1);
        Expect.answers("no steps", 0, () -> w.about(3));
        w.step(0, 0, 1, 0);
        w.step(0, 0, 1, 0);
        w.run(1);
        Expect.answers("two that were in none", 2, () -> w.about(3));
        w.step(0, 0, 1, 0);
        Expect.answers("not of what is told since", 2, () -> w.about(3));
        w.run(1);
        Expect.answers("one more, and two as before", 1, () -> w.about(3));
        WorkPlans full = Shops.full(0);
        full.run(1);
        Expect.answers("all of the first plan", 24, () -> full.about(3));
    }

    private static void aboutNoWhat() {
        WorkPlans w = Shops.oneMachine(0, 1);
        w.run(1);
        Expect.refusesEach("what", INDEX, w::about, -1, 4, 5, LOW, HIGH);
        Shops.aboutIs("all whats", w, 1, 1, 1, 1);
    }

    private static void aboutWithoutPlan() {
        WorkPlans w = Shops.oneMachine(0, 1);
        Expect.refusesEach("what", STATE, w::about, 0, 1, 2, 3);
    }

    private static void aloneAsThingsAre() {
        WorkPlans w = Shops.oneMachine(2, 3, 0, 100);
        Expect.answers("without a plan", 1, () -> w.alone(0));
        w.run(1);
        w.out(0, 0, 1);
        Expect.answers("a span told behind the plan", 2, () -> w.alone(0));
        w.due(0, 4);
        Expect.answers("a due hour told behind the plan", 0, () -> w.alone(0));
        w.step(0, 0, 1, 0);
        Expect.answers("a step told behind the plan", 1, () -> w.alone(0));
        w.machine(0);
        Expect.answers("a machine told behind the plan", 0, () -> w.alone(0));
        w.job(0, 100);
        Expect.answers("a job without steps", 0, () -> w.alone(2));
        Shops.isAt("the plan is as before", w, 0, 100, 0);
    }

    private static void aloneOfNoJob() {
        WorkPlans w = new WorkPlans(0);
        Expect.refusesEach("no jobs, job", INDEX, w::alone, -1, 0, LOW, HIGH);
        w.job(0, 1);
        w.job(0, 1);
        Expect.refusesEach("two jobs, job", INDEX, w::alone, -1, 2, 5, 6, LOW, HIGH);
        Expect.answers("the last job", 0, () -> w.alone(1));
    }

    private static void aloneWithoutFit() {
        for (int at = 0; at < 4; at++) {
            WorkPlans w = Shops.oneMachine(0, 1);
            w.job(0, 1);
            for (int i = 0; i < 4; i++) {
                w.step(1, i == at ? 3 : 0, 1, 0);
            }
            Expect.refuses("step " + at + " of four has no machine", STATE, () -> w.alone(1));
            Expect.answers("the other job fits", 1, () -> w.alone(0));
            w.machine(3);
            Expect.answers("with a machine it fits", 4, () -> w.alone(1));
        }
    }

    private static void promiseFirstAndLast() {
        WorkPlans w = Shops.oneMachine(6, 1, 5, 2, 4, 3, 3, 4, 2, 5);
        w.job(0, 1);
        w.run(1);
        Expect.answers("the last in the order", 15, () -> w.promise(0));
        Expect.answers("the one before", 14, () -> w.promise(1));
        Expect.answers("the first with a step", 5, () -> w.promise(4));
        Expect.answers("a job without steps", 0, () -> w.promise(5));
        WorkPlans one = Shops.oneMachine(0, 100);
        one.run(1);
        Expect.answers("no others", 100, () -> one.promise(0));
        one.improve(100);
        Expect.answers("behind improve", 100, () -> one.promise(0));
    }

    private static void promiseOfNoJob() {
        WorkPlans w = Shops.oneMachine(0, 1, 0, 1);
        w.run(1);
        Expect.refusesEach("two jobs, job", INDEX, w::promise, -1, 2, 5, 6, LOW, HIGH);
        Expect.answers("the last job", 2, () -> w.promise(1));
    }

    private static void promiseWithoutPlan() {
        WorkPlans w = Shops.oneMachine(0, 1);
        Expect.refuses("no run", STATE, () -> w.promise(0));
        Expect.told(() -> w.run(2001));
        Expect.refuses("a refused run makes no plan", STATE, () -> w.promise(0));
    }

    private static void promiseToldSince() {
        WorkPlans w = Shops.oneMachine(1, 9, 2, 1);
        staleByEachTelling(w, () -> w.promise(1), 10);
        w.job(0, 1);
        Expect.refuses("the job told since", STATE, () -> w.promise(3));
    }

    private static void clashFirstAndLast() {
        WorkPlans two = Shops.oneMachine(1, 1, 1, 1);
        Expect.answers("the first of two jobs", 1, () -> two.clash(0));
        WorkPlans six = Shops.oneMachine(1, 1, 1, 1, 1, 1, 1, 1, 1, 1, 1, 1);
        int k = 0;
        for (int lesser = 0; lesser < 6; lesser++) {
            for (int other = lesser + 1; other < 6; other++) {
                int number = k;
                Expect.answers("clash " + k + " of six jobs", 8 * lesser + other, () -> six.clash(number));
                k++;
            }
        }
        Expect.answers("the last", 8 * 4 + 5, () -> six.clash(14));
    }

    private static void clashTooMany() {
        WorkPlans none = new WorkPlans(0);
        Expect.answers("no jobs", NONE, () -> none.clash(0));
        WorkPlans one = Shops.oneMachine(1, 1);
        Expect.answers("one job", NONE, () -> one.clash(0));
        WorkPlans six = Shops.oneMachine(1, 1, 1, 1, 1, 1, 1, 1, 1, 1, 1, 1);
        Expect.answers("one more than there are", NONE, () -> six.clash(15));
        Expect.answers("many more", NONE, () -> six.clash(HIGH));
    }

    private static void clashBelow() {
        WorkPlans w = Shops.oneMachine(1, 1, 1, 1);
        Expect.refusesEach("k", ARGUMENT, w::clash, -1, -2, LOW);
        Expect.refuses("no jobs", ARGUMENT, () -> new WorkPlans(0).clash(-1));
        Expect.answers("the least k", 1, () -> w.clash(0));
    }

    private static void clashWithoutFit() {
        for (int job = 0; job < 3; job++) {
            WorkPlans w = Shops.oneMachine(1, 1, 1, 1, 1, 1);
            w.step(job, 3, 1, 0);
            Expect.refusesEach("job " + job + " of three does not fit, k", STATE, w::clash, 0, 1, 2, 3, HIGH);
        }
        WorkPlans one = new WorkPlans(0);
        one.step(one.job(0, 0), 0, 1, 0);
        Expect.refuses("a job without another", STATE, () -> one.clash(0));
    }

    private static void checkSteps() {
        WorkPlans empty = new WorkPlans(0);
        empty.job(0, 100);
        empty.run(1);
        Expect.answers("no steps", 0, empty::check);
        WorkPlans w = new WorkPlans(0);
        w.machine(0);
        for (int i = 0; i < 24; i++) {
            if (i % 4 == 0) {
                w.job(10000, 1);
            }
            if (i == 23) {
                w.run(1);
                Expect.answers("nothing broken", 0, w::check);
            }
            w.step(i / 4, 0, 1, 0);
        }
        Expect.answers("the last of 24 steps is not in the plan", 123, w::check);
        w.run(1);
        Expect.answers("all in the plan", 0, w::check);
        w.out(0, 23, 24);
        Expect.answers("a span in the last step", 423, w::check);
        w.out(0, 0, 1);
        Expect.answers("a span in the first step", 400, w::check);
    }

    private static void checkJobs() {
        WorkPlans w = Shops.oneMachine(6, 1, 6, 1, 6, 1, 6, 1, 6, 1, 6, 1);
        w.run(1);
        Expect.answers("all in time", 0, w::check);
        w.due(5, 5);
        Expect.answers("the last job", 505, w::check);
        w.due(0, 0);
        Expect.answers("the first job", 500, w::check);
    }

    private static void checkWithoutPlan() {
        WorkPlans w = new WorkPlans(0);
        Expect.refuses("nothing told", STATE, w::check);
        w.job(0, 1);
        Expect.refuses("a job, no run", STATE, w::check);
        w.run(1);
        Expect.answers("a run", 0, w::check);
    }
}
