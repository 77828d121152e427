/** Each sentence of the document's terms at its edges, named with the promise that it says more of. */
public final class TermBoundariesTest {
    private static final Class<IndexOutOfBoundsException> INDEX = Expect.INDEX;
    private static final Class<IllegalArgumentException> ARGUMENT = Expect.ARGUMENT;
    private static final Class<IllegalStateException> STATE = Expect.STATE;
    private static final int LOW = Shops.LOW;
    private static final int HIGH = Shops.HIGH;
    private static final int NONE = WorkPlans.NONE;

    public static void main(String[] args) {
        Sentences document = new Sentences("Terms");
        things(document);
        placing(document);
        searching(document);
        improving(document);
        asking(document);
        refusing(document);
        document.end("TermBoundariesTest");
    }

    private static void things(Sentences d) {
        d.more(2, "Terms", "MACHINES 0 .. 5 have a KIND 0 .. 3", TermBoundariesTest::machinesAndKinds);
        d.more(3, "Terms", "and spans of hours in which they are OUT, 8 at most each.",
            TermBoundariesTest::eightSpansEach);
        d.more(4, "Terms", "JOBS 0 .. 5 have a DUE hour, a WEIGHT,", TermBoundariesTest::jobsWithDueAndWeight);
        d.more(6, "Terms", "and STEPS, 4 at most;", TermBoundariesTest::fourStepsEach);
        d.more(6, "Terms", "STEPS have numbers 0, 1, .. as they are told, of all jobs;",
            TermBoundariesTest::stepsInTellingOrder);
        d.more(6, "Terms", "each has a KIND, HOURS, and a WAIT behind it.", TermBoundariesTest::stepsOwnNumbers);
    }

    private static void placing(Sentences d) {
        d.more(7, "Terms", "PLACED is a job: its STEPS in turn, each on a machine of its KIND and from the hour on"
            + " with which it begins first:", TermBoundariesTest::beginsFirst);
        d.more(7, "Terms", "not before the job's STEP before it has ended and waited,",
            TermBoundariesTest::behindEndAndWait);
        d.more(7, "Terms", "and so that it shares no hour with a STEP that is placed on that machine,",
            TermBoundariesTest::gapsBetweenSteps);
        d.more(7, "Terms", "or with a span in which that is OUT;", TermBoundariesTest::gapsBetweenSpans);
        d.more(7, "Terms", "of several machines the least.", TermBoundariesTest::leastMachine);
        d.more(7, "Terms", "An ORDER of jobs is placed one job behind the other.", TermBoundariesTest::jobByJob);
        d.more(7, "Terms", "A job's END is that of its last STEP (0 without STEPS);", TermBoundariesTest::endOfJob);
        d.more(12, "Terms", "its COST is WEIGHT for each hour that its END is behind DUE;",
            TermBoundariesTest::costOfJob);
        d.more(11, "Terms", "a plan's COST is that of all its jobs.", TermBoundariesTest::costOfPlan);
        d.more(12, "Terms", "ALONE is a job's COST if no other job is placed;", TermBoundariesTest::alone);
        d.more(11, "Terms", "the BOUND is the sum of ALONE of all jobs.", TermBoundariesTest::bound);
        d.more(7, "Terms", "A job FITS if there is a machine for each of its STEPS.", TermBoundariesTest::fits);
    }

    private static void searching(Sentences d) {
        d.more(7, "Terms", "RUN: the best ORDER is at first that by DUE (of several the lesser job first).",
            TermBoundariesTest::byDue);
        d.more(7, "Terms", "Then orders are tried, jobs from the least on at each place:",
            TermBoundariesTest::leastFirst);
        d.more(7, "Terms", "each begun ORDER (of one job or more) is a NODE, counted;", TermBoundariesTest::nodes);
        d.more(7, "Terms", "it is left if the COST of its jobs and ALONE of all others come to the best COST or more;",
            TermBoundariesTest::left);
        d.more(7, "Terms", "else it is gone on from, or, if it has all jobs, it is the best.",
            TermBoundariesTest::goneOnFrom);
        d.more(7, "Terms", "RUN ends at once if a NODE would be one more than told (1),",
            TermBoundariesTest::endsAtOnce);
        d.more(7, "Terms", "else it is CLOSED (0).", TermBoundariesTest::closed);
        d.more(7, "Terms", "The PLAN is the best ORDER's.", TermBoundariesTest::planOfTheBest);
    }

    private static void improving(Sentences d) {
        d.more(8, "Terms", "IMPROVED so many times: x becomes x * 6364136223846793005 + 1442695040888963407"
            + " (wrapped; SEED at first,", TermBoundariesTest::wrapsFromSeed);
        d.more(8, "Terms", "it goes on from call to call);", TermBoundariesTest::goesOn);
        d.more(8, "Terms", "a is (x >>> 33) modulo the number of jobs; once more so for b;",
            TermBoundariesTest::placesOfAllCounts);
        d.more(8, "Terms", "the PLAN's jobs at a and b change places if the COST is less then.",
            TermBoundariesTest::changesIfLess);
    }

    private static void asking(Sentences d) {
        d.more(13, "Terms", "A PROMISE of a job: the END that it would have if it were taken out of the PLAN,"
            + " and placed again with all others as they are.", TermBoundariesTest::promises);
        d.more(14, "Terms", "A CLASH is two jobs with ALONE 0 each,", TermBoundariesTest::clashesOfInTimeJobs);
        d.more(14, "Terms", "of which in neither ORDER of these two alone both have COST 0;",
            TermBoundariesTest::clashesInNeitherOrder);
        d.more(14, "Terms", "CLASHES by the lesser job, then by the other.", TermBoundariesTest::clashesInOrder);
        d.more(15, "Terms", "RULES, looked at by the PLAN as things are now, one behind the other, 1 to 4 for all STEPS"
            + " by numbers, 5 for all jobs by numbers; the first one broken:", TermBoundariesTest::firstRule);
        d.more(15, "Terms", "1 a STEP that is not in the PLAN;", TermBoundariesTest::rule1);
        d.more(15, "Terms", "2 it begins before the one before it in its job has ended and waited;",
            TermBoundariesTest::rule2);
        d.more(15, "Terms", "3 it shares an hour with a STEP of a lesser number on its machine;",
            TermBoundariesTest::rule3);
        d.more(15, "Terms", "4 with a span in which that is OUT;", TermBoundariesTest::rule4);
        d.more(15, "Terms", "5 a job's END is behind DUE.", TermBoundariesTest::rule5);
    }

    private static void refusing(Sentences d) {
        d.more(1, "Terms", "A call that throws changes nothing;", TermBoundariesTest::throwsChangeNothing);
        d.more(1, "Terms", "of several exceptions the one named first is thrown.", TermBoundariesTest::namedFirst);
        d.more(1, "Terms", "IndexOutOfBoundsException: there is no such machine, job, step, place, what.",
            TermBoundariesTest::noSuch);
        d.more(1, "Terms", "IllegalArgumentException: another number is not as said.", TermBoundariesTest::notAsSaid);
        d.more(1, "Terms", "IllegalStateException: there is no room, a job does not FIT, or there is no PLAN.",
            TermBoundariesTest::noRoomFitOrPlan);
    }

    private static void machinesAndKinds() {
        WorkPlans w = new WorkPlans(0);
        for (int m = 0; m < 6; m++) {
            w.machine(m < 2 ? 3 : m - 2);
        }
        w.job(0, 1);
        for (int kind = 0; kind < 4; kind++) {
            w.step(0, kind, 1, 0);
        }
        w.run(1);
        Shops.isAt("kind 0", w, 0, 0, 2);
        Shops.isAt("kind 1", w, 1, 1, 3);
        Shops.isAt("kind 2", w, 2, 2, 4);
        Shops.isAt("kind 3, of three machines", w, 3, 3, 0);
    }

    private static void eightSpansEach() {
        WorkPlans w = new WorkPlans(0);
        for (int m = 0; m < 6; m++) {
            w.machine(0);
            for (int i = 0; i < 8; i++) {
                w.out(m, 2 * i, 2 * i + 1);
            }
        }
        w.step(w.job(0, 1), 0, 2, 0);
        w.step(w.job(0, 1), 0, 1, 0);
        Expect.answers("behind all eight spans", 15 + 2, () -> w.alone(0));
        Expect.answers("between the first two", 1 + 1, () -> w.alone(1));
        for (int m = 0; m < 6; m++) {
            int machine = m;
            Expect.refuses("a ninth of machine " + m, STATE, () -> w.out(machine, 20, 21));
        }
    }

    private static void jobsWithDueAndWeight() {
        WorkPlans w = new WorkPlans(0);
        w.machine(0);
        for (int j = 0; j < 6; j++) {
            w.job(j, 100 - j);
            w.step(j, 0, 10, 0);
        }
        for (int j = 0; j < 6; j++) {
            int job = j;
            Expect.answers("job " + j, (10 - job) * (100 - job), () -> w.alone(job));
        }
    }

    private static void fourStepsEach() {
        WorkPlans w = new WorkPlans(0);
        w.machine(0);
        for (int j = 0; j < 6; j++) {
            int job = w.job(0, 1);
            for (int i = 0; i < 4; i++) {
                w.step(job, 0, 1 + j, 0);
            }
            Expect.refuses("a fifth of job " + j, STATE, () -> w.step(job, 0, 1, 0));
            Expect.answers("four of job " + j, 4 * (1 + j), () -> w.alone(job));
        }
    }

    private static void stepsInTellingOrder() {
        WorkPlans w = new WorkPlans(0);
        w.machine(0);
        w.job(1, 1);
        w.job(0, 1);
        int[] jobs = {1, 0, 0, 1, 1, 0, 1, 0};
        for (int i = 0; i < jobs.length; i++) {
            int number = i;
            Expect.answers("step " + i, number, () -> w.step(jobs[number], 0, 1, 0));
        }
        w.run(1);
        int[] hours = {0, 4, 5, 1, 2, 6, 3, 7};
        for (int i = 0; i < hours.length; i++) {
            Shops.isAt("by due, in turn", w, i, hours[i], 0);
        }
    }

    private static void stepsOwnNumbers() {
        WorkPlans w = new WorkPlans(0);
        w.machine(0);
        w.machine(3);
        w.job(0, 1);
        w.step(0, 3, 100, 0);
        w.step(0, 0, 1, 100);
        w.step(0, 0, 2, 7);
        w.step(0, 3, 50, 100);
        w.run(1);
        Shops.isAt("the first", w, 0, 0, 1);
        Shops.isAt("behind 100 hours", w, 1, 100, 0);
        Shops.isAt("behind 1 hour and the wait of 100", w, 2, 201, 0);
        Shops.isAt("behind 2 hours and the wait of 7", w, 3, 210, 1);
    }

    private static void beginsFirst() {
        WorkPlans w = new WorkPlans(0);
        w.machine(1);
        w.machine(0);
        w.machine(0);
        w.out(1, 0, 6);
        w.out(2, 0, 5);
        w.step(w.job(0, 1), 0, 3, 0);
        w.run(1);
        Shops.isAt("an hour sooner on the larger machine", w, 0, 5, 2);
        w.out(2, 7, 8);
        w.run(1);
        Shops.isAt("no room there before hour 8", w, 0, 6, 1);
        w.out(1, 0, 2000);
        w.out(2, 0, 2000);
        w.run(1);
        Shops.isAt("a free machine of another kind is no help", w, 0, 2000, 1);
    }

    private static void behindEndAndWait() {
        WorkPlans w = new WorkPlans(0);
        w.machine(0);
        w.machine(1);
        w.job(0, 1);
        w.step(0, 0, 3, 0);
        w.step(0, 1, 1, 100);
        w.step(0, 0, 1, 1);
        w.step(0, 0, 1, 0);
        w.run(1);
        Shops.isAt("at once with no wait", w, 1, 3, 1);
        Shops.isAt("behind the longest wait", w, 2, 104, 0);
        Shops.isAt("behind a wait of an hour on the same machine", w, 3, 106, 0);
    }

    private static void gapsBetweenSteps() {
        // Job 0 leaves the hours 2, 3 and 4 of the machine free.
        for (int hours = 1; hours <= 4; hours++) {
            WorkPlans w = new WorkPlans(0);
            w.machine(0);
            w.job(0, 1);
            w.step(0, 0, 2, 3);
            w.step(0, 0, 2, 0);
            w.step(w.job(1, 1), 0, hours, 0);
            w.run(1);
            Shops.isAt(hours + " hours into a gap of 3", w, 2, hours <= 3 ? 2 : 7, 0);
        }
        WorkPlans two = Shops.oneMachine(0, 5, 0, 5);
        two.run(1);
        Shops.isAt("one right behind the other", two, 1, 5, 0);
    }

    private static void gapsBetweenSpans() {
        for (int hours = 1; hours <= 4; hours++) {
            WorkPlans w = Shops.oneMachine(0, hours);
            w.out(0, 5, 9);
            w.out(0, 0, 2);
            Expect.answers(hours + " hours into a gap of 3, spans told the later first",
                hours + (hours <= 3 ? 2 : 9), () -> w.alone(0));
        }
        WorkPlans within = Shops.oneMachine(0, 1);
        within.out(0, 0, 10);
        within.out(0, 2, 4);
        within.out(0, 9, 12);
        within.out(0, 12, 13);
        Expect.answers("spans in one another and end to end", 13 + 1, () -> within.alone(0));
        WorkPlans around = Shops.oneMachine(0, 9);
        around.out(0, 4, 5);
        Expect.answers("a span in the midst of the step", 5 + 9, () -> around.alone(0));
        WorkPlans other = Shops.oneMachine(0, 9);
        other.machine(1);
        other.out(1, 0, 50);
        Expect.answers("a span of another machine", 9, () -> other.alone(0));
        WorkPlans mixed = Shops.oneMachine(0, 2, 1, 2, 2, 2);
        mixed.out(0, 2, 3);
        mixed.out(0, 5, 6);
        mixed.run(1);
        Shops.isAt("before the first span", mixed, 0, 0, 0);
        Shops.isAt("between the spans", mixed, 1, 3, 0);
        Shops.isAt("behind the second", mixed, 2, 6, 0);
    }

    private static void leastMachine() {
        WorkPlans w = new WorkPlans(0);
        w.machine(1);
        for (int m = 1; m < 6; m++) {
            w.machine(0);
        }
        for (int j = 0; j < 6; j++) {
            w.job(j, 1);
            w.step(j, 0, 4, 0);
        }
        w.run(1);
        for (int j = 0; j < 5; j++) {
            Shops.isAt("all free at 0", w, j, 0, 1 + j);
        }
        Shops.isAt("all free at 4", w, 5, 4, 1);
        w.out(1, 100, 200);
        w.out(5, 0, 1);
        w.run(1);
        Shops.isAt("the last free at 1", w, 4, 1, 5);
    }

    private static void jobByJob() {
        WorkPlans w = new WorkPlans(0);
        w.machine(0);
        w.machine(1);
        w.step(w.job(0, 1), 1, 3, 0);
        w.step(0, 0, 5, 0);
        w.step(w.job(1, 1), 0, 4, 0);
        w.step(1, 1, 1, 0);
        w.run(1);
        Shops.isAt("all of the first job before the second", w, 1, 3, 0);
        Shops.isAt("the second does not push it", w, 2, 8, 0);
        w.step(w.job(2, 1), 0, 3, 0);
        w.run(1);
        Shops.isAt("the third begins before the first's second step", w, 4, 0, 0);
        Shops.isAt("the second as before", w, 2, 8, 0);
    }

    private static void endOfJob() {
        WorkPlans w = Shops.oneMachine(10000, 5, 10000, 5);
        w.step(1, 0, 2, 100);
        w.job(0, 100);
        w.run(1);
        Expect.answers("one step", 5 + 0, () -> w.promise(0));
        Expect.answers("the last of two, without its wait", 5 + 5 + 2, () -> w.promise(1));
        Expect.answers("no steps", 0, () -> w.promise(2));
        Expect.answers("no steps, due at 0", 0, () -> w.alone(2));
        Expect.answers("no steps, due at 0: no rule broken", 0, w::check);
    }

    private static void costOfJob() {
        WorkPlans w = new WorkPlans(0);
        w.machine(0);
        w.step(w.job(9, 100), 0, 10, 0);
        Expect.answers("one hour behind", 100, () -> w.alone(0));
        w.due(0, 10);
        Expect.answers("at due", 0, () -> w.alone(0));
        w.due(0, 11);
        Expect.answers("an hour before", 0, () -> w.alone(0));
        w.due(0, 10000);
        Expect.answers("long before", 0, () -> w.alone(0));
        w.due(0, 0);
        Expect.answers("due at 0", 1000, () -> w.alone(0));
        w.step(w.job(0, 0), 0, 10, 0);
        Expect.answers("no weight", 0, () -> w.alone(1));
        w.out(0, 0, 1000);
        w.out(0, 1000, 2000);
        for (int i = 0; i < 3; i++) {
            w.step(0, 0, 100, 100);
        }
        Expect.answers("as late as it can be", 100 * (2000 + 10 + 3 * 100 + 2 * 100), () -> w.alone(0));
    }

    private static void costOfPlan() {
        WorkPlans w = Shops.oneMachine(0, 1, 3, 2, 4, 3);
        w.job(0, 100);
        w.run(2000);
        Expect.answers("late, in time, late, without steps", 1 + 0 + 2 + 0, () -> w.about(0));
        WorkPlans none = Shops.oneMachine(1, 1, 3, 2);
        none.run(1);
        Expect.answers("all at due", 0, () -> none.about(0));
    }

    private static void alone() {
        WorkPlans w = Shops.oneMachine(5, 5, 5, 6, 0, 1);
        w.run(1);
        Expect.answers("at due", 0, () -> w.alone(0));
        Expect.answers("an hour behind", 1, () -> w.alone(1));
        Expect.answers("of one hour, due at 0", 1, () -> w.alone(2));
        WorkPlans own = new WorkPlans(0);
        own.machine(0);
        own.job(0, 1);
        own.step(0, 0, 4, 0);
        own.step(0, 0, 4, 0);
        Expect.answers("its own steps share no hour", 8, () -> own.alone(0));
        own.step(own.job(0, 1), 0, 9, 0);
        Expect.answers("another job changes nothing", 8, () -> own.alone(0));
    }

    private static void bound() {
        WorkPlans w = Shops.oneMachine(0, 7);
        w.run(1);
        Expect.answers("of one job", 7, () -> w.about(1));
        w.job(0, 100);
        w.run(2000);
        Expect.answers("a job without steps adds nothing", 7, () -> w.about(1));
        WorkPlans six = Shops.oneMachine(0, 1, 0, 2, 0, 3, 0, 4, 0, 5, 0, 6);
        six.run(1);
        Expect.answers("of six jobs", 1 + 2 + 3 + 4 + 5 + 6, () -> six.about(1));
    }

    private static void fits() {
        WorkPlans w = new WorkPlans(0);
        w.job(0, 1);
        Expect.answers("no steps, no machines", 0, () -> w.alone(0));
        w.step(0, 0, 1, 0);
        Expect.refuses("a step, no machines", STATE, () -> w.alone(0));
        w.machine(1);
        Expect.refuses("a step, a machine of another kind", STATE, () -> w.alone(0));
        w.machine(0);
        Expect.answers("one machine of the kind", 1, () -> w.alone(0));
        w.step(0, 0, 1, 0);
        Expect.answers("one machine for two steps", 2, () -> w.alone(0));
        w.out(1, 0, 2000);
        Expect.answers("a machine that is out long", 2002, () -> w.alone(0));
        w.step(0, 3, 1, 0);
        Expect.refuses("the third step has none", STATE, () -> w.alone(0));
    }

    private static void byDue() {
        WorkPlans same = Shops.oneMachine(0, 1, 0, 1, 0, 1, 0, 1, 0, 1, 0, 1);
        same.run(1);
        Shops.orderIs("six equal dues", same, 0, 1, 2, 3, 4, 5);
        WorkPlans down = Shops.oneMachine(10000, 1, 9999, 1, 3, 1, 2, 1, 1, 1, 0, 1);
        down.run(1);
        Shops.orderIs("from the last on", down, 5, 4, 3, 2, 1, 0);
        WorkPlans mixed = Shops.oneMachine(5, 1, 0, 1, 5, 1, 0, 1, 10000, 1, 5, 1);
        mixed.run(1);
        Shops.orderIs("of several the lesser first", mixed, 1, 3, 0, 2, 5, 4);
        mixed.due(0, 10000);
        mixed.run(1);
        Shops.orderIs("by what is due now", mixed, 1, 3, 2, 5, 0, 4);
    }

    private static void leastFirst() {
        // Of these, each order that begins with jobs 1 and 2 costs 14, whichever of both is first.
        WorkPlans w = Shops.oneMachine(0, 9, 0, 1, 0, 1);
        w.run(2000);
        Shops.orderIs("the first of equal ones", w, 1, 2, 0);
        w.run(7);
        Shops.orderIs("0, 0 1, 0 1 2, 0 2, 0 2 1, 1, 1 0 change nothing", w, 0, 1, 2);
        w.run(8);
        Shops.orderIs("node 8 is 1 0 2", w, 1, 0, 2);
        w.run(9);
        Shops.orderIs("node 9 is 1 2", w, 1, 0, 2);
        w.run(10);
        Shops.orderIs("node 10 is 1 2 0", w, 1, 2, 0);
    }

    private static void nodes() {
        WorkPlans one = Shops.oneMachine(0, 1);
        one.run(2000);
        Expect.answers("one job", 1, () -> one.about(2));
        int[] due = {1, 4, 15, 64, 325, 1956};
        for (int jobs = 2; jobs <= 6; jobs++) {
            WorkPlans w = allButOneInTime(jobs);
            w.run(2000);
            Expect.answers("all begun orders of " + jobs + " jobs", due[jobs - 1], () -> w.about(2));
        }
    }

    /** One hour each, due so that only the last placed is late: no begun order is left before all jobs are placed. */
    private static WorkPlans allButOneInTime(int jobs) {
        WorkPlans w = new WorkPlans(0);
        w.machine(0);
        for (int j = 0; j < jobs; j++) {
            w.job(jobs - 1, 1);
            w.step(j, 0, 1, 0);
        }
        return w;
    }

    private static void left() {
        WorkPlans apart = new WorkPlans(0);
        for (int j = 0; j < 4; j++) {
            apart.machine(j);
            apart.job(0, 1);
            apart.step(j, j, 5, 0);
        }
        apart.run(2000);
        Expect.answers("as much as the best: all left at once", 4, () -> apart.about(2));

        // By due 0 + 1. Each job first comes to 0, with ALONE of the other: both are gone on from.
        WorkPlans less = Shops.oneMachine(4, 4, 5, 2);
        less.run(2000);
        Expect.answers("one less than the best: gone on from", 4, () -> less.about(2));

        // By due 1 + 1. Job 0 first: 1 and ALONE 0 is less. Job 1 first: 0 and ALONE 1 is less.
        WorkPlans others = Shops.oneMachine(3, 4, 5, 2);
        others.run(2000);
        Expect.answers("ALONE of the others counts", 4, () -> others.about(2));
        // By due 1 + 0: job 0 first comes to 1, job 1 first to 0 and ALONE 1.
        others.due(1, 6);
        others.run(2000);
        Expect.answers("with ALONE of the others as much as the best", 2, () -> others.about(2));
    }

    private static void goneOnFrom() {
        WorkPlans w = Shops.oneMachine(0, 9, 1, 1);
        w.run(4);
        Shops.orderIs("the last node has all jobs and is the best", w, 1, 0);
        Expect.answers("its cost", 0 + 10, () -> w.about(0));
        WorkPlans even = Shops.oneMachine(0, 3, 0, 3);
        even.run(2000);
        Shops.orderIs("as much as the best is not the best", even, 0, 1);
        WorkPlans first = Shops.oneMachine(10, 1, 9, 1);
        first.run(2000);
        Shops.orderIs("nothing is less than 0", first, 1, 0);
        Expect.answers("both left", 2, () -> first.about(2));
    }

    private static void endsAtOnce() {
        WorkPlans two = Shops.oneMachine(0, 9, 1, 1);
        Expect.answers("the fourth would be too many", 1, () -> two.run(3));
        Expect.answers("and is not counted", 3, () -> two.about(2));
        Shops.orderIs("nor looked at", two, 0, 1);
        WorkPlans six = allButOneInTime(6);
        Expect.answers("one too few for six jobs", 1, () -> six.run(1955));
        Expect.answers("one too few is counted so", 1955, () -> six.about(2));
        Expect.answers("a run behind one that ended", 0, () -> six.run(1956));
        Expect.answers("the fewest", 1, () -> six.run(1));
        Expect.answers("the fewest is counted so", 1, () -> six.about(2));
    }

    private static void closed() {
        WorkPlans two = Shops.oneMachine(0, 9, 1, 1);
        Expect.answers("just as many as told", 0, () -> two.run(4));
        Expect.answers("fewer than told", 0, () -> two.run(5));
        Expect.answers("four of 2000", 0, () -> two.run(2000));
        WorkPlans six = allButOneInTime(6);
        Expect.answers("the most nodes that there can be", 0, () -> six.run(1956));
        Expect.answers("and fewer than told", 0, () -> six.run(2000));
        WorkPlans one = Shops.oneMachine(0, 1);
        Expect.answers("one job, one node", 0, () -> one.run(1));
    }

    private static void planOfTheBest() {
        WorkPlans w = Shops.oneMachine(0, 9, 1, 1);
        w.run(3);
        Shops.isAt("ended: by due", w, 0, 0, 0);
        Shops.isAt("ended: by due", w, 1, 9, 0);
        w.run(4);
        Shops.isAt("closed: the best", w, 0, 1, 0);
        Shops.isAt("closed: the best", w, 1, 0, 0);
        w.run(3);
        Shops.orderIs("a run begins by due again", w, 0, 1);
        // Node 10 is the best, and node 11 a begun order that is left: the plan is not the latest node's.
        WorkPlans later = Shops.oneMachine(0, 9, 0, 1, 0, 1);
        later.run(11);
        Shops.orderIs("the latest node is not the best", later, 1, 2, 0);
        Shops.isAt("the latest node is not the best", later, 0, 2, 0);
    }

    /** Six jobs of one machine whose order by due is far from the best. */
    private static final int[] DUES = {4, 5, 6, 7, 8, 9};
    private static final int[] HOURS = {13, 8, 5, 3, 2, 1};

    private static WorkPlans drawnShop(int seed, int jobs) {
        WorkPlans w = new WorkPlans(seed);
        w.machine(0);
        for (int j = 0; j < jobs; j++) {
            w.step(w.job(DUES[j], 1), 0, HOURS[j], 0);
        }
        return w;
    }

    /** The draws as the document tells them, counted apart from the program. */
    private static final class Draws {
        private long x;
        private int[] order;

        Draws(int seed, int jobs) {
            x = seed;
            begin(jobs);
        }

        void begin(int jobs) {
            order = new int[jobs];
            for (int j = 0; j < jobs; j++) {
                order[j] = j;
            }
        }

        int improve(int n) {
            int less = 0;
            for (int i = 0; i < n; i++) {
                int a = place();
                int b = place();
                int[] changed = order.clone();
                changed[a] = order[b];
                changed[b] = order[a];
                if (late(changed) < late(order)) {
                    order = changed;
                    less++;
                }
            }
            return less;
        }

        private int place() {
            x = x * 6364136223846793005L + 1442695040888963407L;
            return (int) ((x >>> 33) % order.length);
        }

        private static int late(int[] order) {
            int hour = 0;
            int late = 0;
            for (int job : order) {
                hour += HOURS[job];
                late += Math.max(0, hour - DUES[job]);
            }
            return late;
        }
    }

    private static void wrapsFromSeed() {
        for (int seed : new int[] {0, 1, 2, 7, 12345, -1, -2, -12345, LOW, LOW + 1, HIGH - 1, HIGH}) {
            WorkPlans w = drawnShop(seed, 6);
            w.run(1);
            Draws draws = new Draws(seed, 6);
            Expect.answers("seed " + seed + ", once", draws.improve(1), () -> w.improve(1));
            Shops.orderIs("seed " + seed + ", once", w, draws.order);
            Expect.answers("seed " + seed + ", four times more", draws.improve(4), () -> w.improve(4));
            Shops.orderIs("seed " + seed + ", four times more", w, draws.order);
        }
    }

    private static void goesOn() {
        for (int n : new int[] {0, 1, 2, 99, 100}) {
            WorkPlans w = drawnShop(5, 6);
            Draws draws = new Draws(5, 6);
            w.run(1);
            Expect.answers("improve(" + n + ")", draws.improve(n), () -> w.improve(n));
            w.run(1);
            draws.begin(6);
            Expect.refuses("a refused call draws nothing", ARGUMENT, () -> w.improve(101));
            Expect.answers("draws behind improve(" + n + ") and a run", draws.improve(3), () -> w.improve(3));
            Shops.orderIs("draws behind improve(" + n + ") and a run", w, draws.order);
        }
    }

    private static void placesOfAllCounts() {
        for (int jobs = 1; jobs <= 6; jobs++) {
            for (int seed = 0; seed < 4; seed++) {
                WorkPlans w = drawnShop(seed, jobs);
                w.run(1);
                Draws draws = new Draws(seed, jobs);
                int n = jobs + seed;
                String what = jobs + " jobs, seed " + seed;
                Expect.answers(what, draws.improve(n), () -> w.improve(n));
                Shops.orderIs(what, w, draws.order);
            }
        }
        WorkPlans grown = drawnShop(3, 2);
        Draws draws = new Draws(3, 2);
        grown.run(1);
        Expect.answers("two jobs", draws.improve(1), () -> grown.improve(1));
        grown.step(grown.job(DUES[2], 1), 0, HOURS[2], 0);
        grown.run(1);
        draws.begin(3);
        Expect.answers("three jobs now", draws.improve(5), () -> grown.improve(5));
        Shops.orderIs("three jobs now", grown, draws.order);
    }

    private static void changesIfLess() {
        WorkPlans even = Shops.oneMachine(0, 3, 0, 3, 0, 3);
        even.run(1);
        Expect.answers("as much is not less", 0, () -> even.improve(100));
        Shops.orderIs("as much is not less", even, 0, 1, 2);
        WorkPlans best = drawnShop(0, 6);
        best.run(2000);
        long cost = best.about(0);
        Expect.answers("nothing is less than the best", 0, () -> best.improve(100));
        Expect.answers("its cost is as before", cost, () -> best.about(0));
        WorkPlans less = Shops.oneMachine(1, 2, 1, 1);
        less.run(1);
        Expect.answers("one less is enough", 1, () -> less.improve(100));
        Shops.orderIs("one less is enough", less, 1, 0);
        Shops.isAt("the steps go with it", less, 1, 0, 0);
        Shops.isAt("the steps go with it", less, 0, 1, 0);
    }

    private static void promises() {
        // Job 1 has the hour before job 0's step on machine 0, and job 2 the gap between both of job 1's.
        WorkPlans w = new WorkPlans(0);
        w.machine(0);
        w.machine(1);
        w.job(0, 1);
        w.step(0, 1, 2, 0);
        w.step(0, 0, 5, 0);
        w.job(1, 1);
        w.step(1, 0, 1, 8);
        w.step(1, 0, 1, 0);
        w.step(w.job(2, 1), 0, 2, 0);
        w.step(w.job(3, 1), 0, 3, 0);
        w.run(1);
        Shops.isAt("planned", w, 2, 0, 0);
        Shops.isAt("planned", w, 3, 9, 0);
        Shops.isAt("planned", w, 4, 7, 0);
        Shops.isAt("planned", w, 5, 10, 0);
        Expect.answers("the first, others around it", 7, () -> w.promise(0));
        Expect.answers("behind its own wait", 10, () -> w.promise(1));
        Expect.answers("in a gap of others", 9, () -> w.promise(2));
        Expect.answers("behind all others", 13, () -> w.promise(3));
        String before = Shops.allAnswers(w);
        w.promise(0);
        Expect.same("the plan is as before", before, Shops.allAnswers(w));

        WorkPlans spans = Shops.oneMachine(0, 2);
        spans.out(0, 1, 4);
        spans.run(1);
        Expect.answers("spans are as they are", 6, () -> spans.promise(0));
    }

    private static void clashesOfInTimeJobs() {
        WorkPlans w = Shops.oneMachine(3, 3, 3, 3);
        Expect.answers("both at due alone", 1, () -> w.clash(0));
        w.due(0, 2);
        Expect.answers("one an hour late alone", NONE, () -> w.clash(0));
        w.due(1, 2);
        Expect.answers("both an hour late alone", NONE, () -> w.clash(0));
        WorkPlans light = new WorkPlans(0);
        light.machine(0);
        light.step(light.job(0, 0), 0, 3, 0);
        light.step(light.job(3, 1), 0, 3, 0);
        Expect.answers("without weight none is late", NONE, () -> light.clash(0));
    }

    private static void clashesInNeitherOrder() {
        WorkPlans w = Shops.oneMachine(3, 3, 4, 2);
        Expect.answers("late by an hour in each order", 1, () -> w.clash(0));
        w.due(1, 5);
        Expect.answers("in time if 0 is first", NONE, () -> w.clash(0));
        w.due(1, 2);
        w.due(0, 5);
        Expect.answers("in time if 1 is first", NONE, () -> w.clash(0));
        w.due(0, 4);
        Expect.answers("late by an hour again", 1, () -> w.clash(0));
        WorkPlans third = Shops.oneMachine(2, 1, 2, 1, 3, 1);
        Expect.answers("of these two alone: a third does not count", NONE, () -> third.clash(0));
        WorkPlans apart = Shops.oneMachine(3, 3, 3, 3);
        apart.machine(0);
        Expect.answers("a machine each", NONE, () -> apart.clash(0));
        apart.out(1, 0, 1);
        Expect.answers("a machine each, one out for an hour", 1, () -> apart.clash(0));
        WorkPlans empty = Shops.oneMachine(3, 3);
        empty.job(0, 100);
        Expect.answers("a job without steps", NONE, () -> empty.clash(0));
    }

    private static void clashesInOrder() {
        // Jobs 0 and 3 clash with 5, and 3 with 0; the others are never late.
        WorkPlans w = Shops.oneMachine(5, 5, 50, 1, 50, 1, 5, 5, 50, 1, 5, 5);
        Expect.answers("first", 8 * 0 + 3, () -> w.clash(0));
        Expect.answers("second", 8 * 0 + 5, () -> w.clash(1));
        Expect.answers("third", 8 * 3 + 5, () -> w.clash(2));
        Expect.answers("no fourth", NONE, () -> w.clash(3));
    }

    private static void firstRule() {
        WorkPlans w = Shops.oneMachine(1, 1, 3, 2);
        w.run(1);
        Expect.answers("none", 0, w::check);
        w.due(1, 2);
        w.due(0, 0);
        Expect.answers("5, of two jobs the lesser", 500, w::check);
        w.out(0, 2, 3);
        Expect.answers("4 of a larger step before 5 of a lesser job", 401, w::check);
        w.step(0, 0, 1, 0);
        Expect.answers("1 of the largest step before 4 of a lesser one", 102, w::check);
        w.step(0, 0, 1, 0);
        Expect.answers("1, of two steps the lesser", 102, w::check);
        w.run(2000);
        w.due(0, 10000);
        w.due(1, 10000);
        Expect.answers("none as things are now", 0, w::check);
    }

    private static void rule1() {
        WorkPlans w = new WorkPlans(0);
        w.machine(0);
        w.job(10000, 1);
        w.run(1);
        Expect.answers("a plan without steps", 0, w::check);
        w.step(0, 0, 1, 0);
        Expect.answers("step 0", 100, w::check);
        w.run(1);
        Expect.answers("planned", 0, w::check);
        w.job(0, 1);
        Expect.answers("a job told since, without steps", 0, w::check);
        w.step(1, 3, 1, 0);
        Expect.answers("a step that has no machine", 101, w::check);
    }

    /** The program's own plans never break rules 2 and 3: these are the hours next to which they would. */
    private static void rule2() {
        WorkPlans w = new WorkPlans(0);
        w.machine(0);
        w.machine(1);
        w.job(10000, 1);
        w.step(0, 0, 1, 100);
        w.step(0, 1, 1, 0);
        w.step(0, 0, 100, 0);
        w.run(1);
        Shops.isAt("just behind the wait", w, 1, 101, 1);
        Shops.isAt("just behind the end", w, 2, 102, 0);
        Expect.answers("not before either", 0, w::check);
        w.step(w.job(10000, 1), 1, 1, 0);
        w.run(1);
        Shops.isAt("another job's step", w, 3, 0, 1);
        Expect.answers("the step before of another job is none", 0, w::check);
    }

    private static void rule3() {
        WorkPlans w = Shops.oneMachine(10000, 3, 10000, 3);
        w.run(1);
        Shops.isAt("just behind", w, 1, 3, 0);
        Expect.answers("no hour shared", 0, w::check);
        w.due(1, 9999);
        w.run(1);
        Shops.isAt("just before", w, 1, 0, 0);
        Expect.answers("no hour shared with the lesser behind it", 0, w::check);
        w.machine(0);
        w.run(1);
        Shops.isAt("the same hours on another machine", w, 0, 0, 1);
        Expect.answers("no hour shared on its machine", 0, w::check);
    }

    private static void rule4() {
        int[][] spans = {{0, 5}, {8, 10}, {5, 6}, {7, 8}, {6, 7}, {0, 2000}, {4, 6}, {7, 9}, {5, 8}};
        int[] due = {0, 0, 400, 400, 400, 400, 400, 400, 400};
        for (int i = 0; i < spans.length; i++) {
            WorkPlans w = Shops.oneMachine(10000, 3);
            w.machine(0);
            w.machine(1);
            w.out(0, 0, 5);
            w.out(1, 0, 2000);
            w.run(1);
            Shops.isAt("from 5 up to 8", w, 0, 5, 0);
            w.out(2, 0, 2000);
            Expect.answers("a span of another machine", 0, w::check);
            int[] span = spans[i];
            w.out(0, span[0], span[1]);
            Expect.answers("out from " + span[0] + " up to " + span[1], due[i], w::check);
        }
        WorkPlans eighth = Shops.oneMachine(10000, 3);
        eighth.run(1);
        for (int i = 0; i < 7; i++) {
            eighth.out(0, 3 + i, 4 + i);
        }
        Expect.answers("seven spans behind it", 0, eighth::check);
        eighth.out(0, 0, 1);
        Expect.answers("the eighth shares", 400, eighth::check);
        fullSpansApart();
    }

    /** One hour on each machine, then eight spans behind it on all but one, which has its spans in it. */
    private static void fullSpansApart() {
        for (int out = 0; out < 6; out++) {
            WorkPlans w = Shops.oneMachine(10000, 1, 10000, 1, 10000, 1, 10000, 1, 10000, 1, 10000, 1);
            for (int m = 1; m < 6; m++) {
                w.machine(0);
            }
            w.run(1);
            for (int i = 0; i < 48; i++) {
                int m = (out + 1 + i / 8) % 6;
                w.out(m, m == out ? 0 : 1, 2);
                int due = m == out ? 400 + out : 0;
                Expect.answers("span " + (i % 8 + 1) + " of machine " + m, due, w::check);
            }
        }
    }

    private static void rule5() {
        WorkPlans w = Shops.oneMachine(4, 3);
        w.run(1);
        Expect.answers("an hour before due", 0, w::check);
        w.due(0, 3);
        Expect.answers("at due", 0, w::check);
        w.due(0, 2);
        Expect.answers("an hour behind due", 500, w::check);
        w.due(0, 10000);
        Expect.answers("as things are now", 0, w::check);
        WorkPlans light = new WorkPlans(0);
        light.machine(0);
        light.step(light.job(2, 0), 0, 3, 100);
        light.run(1);
        Expect.answers("without weight, it costs nothing", 0, () -> light.about(0));
        Expect.answers("without weight, it is behind due", 500, light::check);
        light.due(0, 3);
        Expect.answers("the wait behind the last step does not count", 0, light::check);
        WorkPlans empty = new WorkPlans(0);
        empty.job(0, 100);
        empty.run(1);
        Expect.answers("no steps, due at 0", 0, empty::check);
    }

    private static Expect.Call[] wrongCalls(WorkPlans w) {
        return new Expect.Call[] {
            () -> w.machine(-1), () -> w.machine(4),
            () -> w.out(-1, 0, 1), () -> w.out(6, 0, 1), () -> w.out(0, -1, 1), () -> w.out(0, 1001, 1002),
            () -> w.out(0, 3, 3), () -> w.out(0, 3, 2001),
            () -> w.job(-1, 1), () -> w.job(10001, 1), () -> w.job(1, -1), () -> w.job(1, 101),
            () -> Shops.tellDue(w, -1, 1), () -> Shops.tellDue(w, 6, 1), () -> Shops.tellDue(w, 0, -1),
            () -> Shops.tellDue(w, 0, 10001),
            () -> w.step(-1, 0, 1, 0), () -> w.step(6, 0, 1, 0), () -> w.step(0, -1, 1, 0), () -> w.step(0, 4, 1, 0),
            () -> w.step(0, 0, 0, 0), () -> w.step(0, 0, 101, 0), () -> w.step(0, 0, 1, -1), () -> w.step(0, 0, 1, 101),
            () -> w.run(0), () -> w.run(2001), () -> w.improve(-1), () -> w.improve(101),
            () -> w.at(-1, 0), () -> w.at(24, 0), () -> w.at(0, -1), () -> w.at(0, 2),
            () -> w.order(-1), () -> w.order(6), () -> w.about(-1), () -> w.about(4),
            () -> w.alone(-1), () -> w.alone(6), () -> w.promise(-1), () -> w.promise(6), () -> w.clash(-1),
        };
    }

    private static void allThrow(String what, Expect.Call... calls) {
        for (int i = 0; i < calls.length; i++) {
            String got = Expect.told(calls[i]);
            Expect.same(what + ", call " + i, "true", Boolean.toString(got.startsWith("throws.I")));
        }
    }

    private static void throwsChangeNothing() {
        WorkPlans left = new WorkPlans(3);
        WorkPlans right = new WorkPlans(3);
        allThrow("empty", wrongCalls(left));
        Expect.same("empty", Shops.allAnswers(right), Shops.allAnswers(left));
        Expect.answers("the first machine", 0, () -> left.machine(0));
        Expect.answers("the first job", 0, () -> left.job(1, 1));
        Expect.answers("the first step", 0, () -> left.step(0, 0, 1, 0));
        Expect.answers("the first span", 1, () -> left.out(0, 0, 1));

        fullChangesNothing();
        staleChangesNothing();
    }

    private static void fullChangesNothing() {
        WorkPlans left = Shops.full(9);
        WorkPlans right = Shops.full(9);
        left.run(7);
        right.run(7);
        allThrow("full", wrongCalls(left));
        allThrow("no room", () -> left.machine(0), () -> left.out(5, 0, 1), () -> left.job(0, 1),
            () -> left.step(5, 0, 1, 0));
        Expect.same("full", Shops.allAnswers(right), Shops.allAnswers(left));
        Expect.answers("the draws", right.improve(20), () -> left.improve(20));
        Expect.same("the draws", Shops.allAnswers(right), Shops.allAnswers(left));
    }

    private static void staleChangesNothing() {
        WorkPlans left = drawnShop(9, 5);
        WorkPlans right = drawnShop(9, 5);
        for (WorkPlans w : new WorkPlans[] {left, right}) {
            w.run(3);
            w.improve(3);
            w.step(0, 1, 1, 0);
        }
        allThrow("a job does not fit", () -> left.run(2000), () -> left.improve(5), () -> left.alone(0),
            () -> left.promise(1), () -> left.clash(0));
        Expect.same("a job does not fit", Shops.allAnswers(right), Shops.allAnswers(left));
        left.machine(1);
        right.machine(1);
        Expect.answers("the next run", right.run(4), () -> left.run(4));
        Expect.answers("the draws", right.improve(4), () -> left.improve(4));
        Expect.same("all fit", Shops.allAnswers(right), Shops.allAnswers(left));
    }

    private static void namedFirst() {
        WorkPlans empty = new WorkPlans(0);
        Expect.refuses("out: machine, then from", INDEX, () -> empty.out(0, -1, 1));
        Expect.refuses("out: machine, then to", INDEX, () -> empty.out(0, 0, 2001));
        Expect.refuses("due: job, then due", INDEX, () -> Shops.tellDue(empty, 0, -1));
        Expect.refuses("step: job, then kind", INDEX, () -> empty.step(0, 4, 1, 0));
        Expect.refuses("step: job, then hours", INDEX, () -> empty.step(0, 0, 0, 0));
        Expect.refuses("run: nodes, then no jobs", ARGUMENT, () -> empty.run(0));
        Expect.refuses("improve: n, then no plan", ARGUMENT, () -> empty.improve(101));
        Expect.refuses("at: step, then no plan", INDEX, () -> empty.at(0, 0));
        Expect.refuses("order: no plan, then place", STATE, () -> empty.order(-1));
        Expect.refuses("about: what, then no plan", INDEX, () -> empty.about(4));
        Expect.refuses("promise: job, then no plan", INDEX, () -> empty.promise(0));

        WorkPlans full = Shops.full(0);
        Expect.refuses("machine: kind, then no room", ARGUMENT, () -> full.machine(4));
        Expect.refuses("out: from, then no room", ARGUMENT, () -> full.out(0, -1, 1));
        Expect.refuses("out: to, then no room", ARGUMENT, () -> full.out(0, 1, 1));
        Expect.refuses("job: due, then no room", ARGUMENT, () -> full.job(10001, 1));
        Expect.refuses("job: weight, then no room", ARGUMENT, () -> full.job(0, 101));
        Expect.refuses("step: kind, then no room", ARGUMENT, () -> full.step(0, 4, 1, 0));
        Expect.refuses("step: hours, then no room", ARGUMENT, () -> full.step(0, 0, 101, 0));
        Expect.refuses("step: wait, then no room", ARGUMENT, () -> full.step(0, 0, 1, 101));
        Expect.refuses("at: what, then no plan", INDEX, () -> full.at(0, 2));

        WorkPlans stale = Shops.oneMachine(0, 1);
        stale.run(1);
        stale.step(0, 3, 1, 0);
        Expect.refuses("run: nodes, then no fit", ARGUMENT, () -> stale.run(2001));
        Expect.refuses("improve: n, then told since", ARGUMENT, () -> stale.improve(-1));
        Expect.refuses("promise: job, then told since", INDEX, () -> stale.promise(1));
        Expect.refuses("clash: k, then no fit", ARGUMENT, () -> stale.clash(-1));
        Expect.refuses("alone: job, then no fit", INDEX, () -> stale.alone(1));
    }

    private static void noSuch() {
        WorkPlans w = Shops.oneMachine(0, 1);
        w.run(1);
        int[] none = {-1, 1, LOW, HIGH};
        Expect.refusesEach("out: machine", INDEX, n -> w.out(n, 0, 1), none);
        Expect.refusesEach("due: job", INDEX, n -> Shops.tellDue(w, n, 0), none);
        Expect.refusesEach("step: job", INDEX, n -> w.step(n, 0, 1, 0), none);
        Expect.refusesEach("alone: job", INDEX, w::alone, none);
        Expect.refusesEach("promise: job", INDEX, w::promise, none);
        Expect.refusesEach("at: step", INDEX, n -> w.at(n, 0), none);
        Expect.refusesEach("order: place", INDEX, w::order, none);
        Expect.refusesEach("at: what", INDEX, n -> w.at(0, n), -1, 2, LOW, HIGH);
        Expect.refusesEach("about: what", INDEX, w::about, -1, 4, LOW, HIGH);
    }

    private static void notAsSaid() {
        WorkPlans w = Shops.oneMachine(0, 1);
        w.run(1);
        Expect.refusesEach("machine: kind", ARGUMENT, w::machine, -1, 4, LOW, HIGH);
        Expect.refusesEach("out: from", ARGUMENT, n -> w.out(0, n, 1500), -1, 1001, LOW, HIGH);
        Expect.refusesEach("out: to", ARGUMENT, n -> w.out(0, 500, n), 500, 2001, LOW, HIGH);
        Expect.refusesEach("job: due", ARGUMENT, n -> w.job(n, 1), -1, 10001, LOW, HIGH);
        Expect.refusesEach("job: weight", ARGUMENT, n -> w.job(1, n), -1, 101, LOW, HIGH);
        Expect.refusesEach("due: due", ARGUMENT, n -> Shops.tellDue(w, 0, n), -1, 10001, LOW, HIGH);
        Expect.refusesEach("step: kind", ARGUMENT, n -> w.step(0, n, 1, 0), -1, 4, LOW, HIGH);
        Expect.refusesEach("step: hours", ARGUMENT, n -> w.step(0, 0, n, 0), 0, 101, LOW, HIGH);
        Expect.refusesEach("step: wait", ARGUMENT, n -> w.step(0, 0, 1, n), -1, 101, LOW, HIGH);
        Expect.refusesEach("run: nodes", ARGUMENT, w::run, 0, 2001, LOW, HIGH);
        Expect.refusesEach("improve: n", ARGUMENT, w::improve, -1, 101, LOW, HIGH);
        Expect.refusesEach("clash: k", ARGUMENT, w::clash, -1, LOW);
    }

    private static void noRoomFitOrPlan() {
        WorkPlans full = Shops.full(0);
        Expect.refuses("machine: no room", STATE, () -> full.machine(0));
        Expect.refuses("out: no room", STATE, () -> full.out(0, 0, 1));
        Expect.refuses("job: no room", STATE, () -> full.job(0, 0));
        Expect.refuses("step: no room", STATE, () -> full.step(0, 0, 1, 0));
        Expect.refuses("improve: no plan", STATE, () -> full.improve(0));
        Expect.refuses("at: no plan", STATE, () -> full.at(23, 1));
        Expect.refuses("order: no plan", STATE, () -> full.order(0));
        Expect.refuses("about: no plan", STATE, () -> full.about(0));
        Expect.refuses("promise: no plan", STATE, () -> full.promise(5));
        Expect.refuses("check: no plan", STATE, full::check);
        WorkPlans bare = new WorkPlans(0);
        bare.step(bare.job(0, 0), 3, 1, 0);
        Expect.refuses("run: no fit", STATE, () -> bare.run(1));
        Expect.refuses("alone: no fit", STATE, () -> bare.alone(0));
        Expect.refuses("clash: no fit", STATE, () -> bare.clash(0));
    }
}
