import java.util.Random;

/** Long runs of drawn calls, each answered by the program and by the model. */
public final class ModelTest {
    private static final int RUNS = 150;
    private static final int CALLS = 512;
    private static final int[] WILD = {
        Integer.MIN_VALUE, Integer.MIN_VALUE + 1, -1000000, -2, -1, 0, 1, 2, 3, 4, 5, 6, 7, 8, 24, 100, 101,
        1000, 1001, 2000, 2001, 10000, 10001, 1 << 16, Integer.MAX_VALUE - 1, Integer.MAX_VALUE,
    };

    private final Random random;
    private final int run;
    private final WorkPlans plans;
    private final Model model;
    private final int lateness;
    private final int kinds;
    private final int sparse;
    private int calls = 0;

    private ModelTest(int run) {
        this.run = run;
        random = new Random(run);
        int seed = run % 3 == 0 ? run : random.nextInt();
        plans = new WorkPlans(seed);
        model = new Model(seed);
        sparse = new int[] {0, 40, 80, 92}[run % 4];
        lateness = 1 + random.nextInt(sparse > 40 ? 25 : 120);
        kinds = 1 + random.nextInt(sparse > 40 ? 2 : 4);
    }

    public static void main(String[] args) {
        for (int run = 0; run < RUNS; run++) {
            new ModelTest(run).drive();
        }
        Expect.end("ModelTest");
    }

    private void drive() {
        if (run % 5 == 0) {
            tellTightJobs();
        }
        for (int i = 0; i < CALLS; i++) {
            // A run tells much at first and asks much later, so that plans see both empty and full shops.
            boolean tells = random.nextInt(CALLS) > 3 * i || random.nextInt(12) == 0;
            if (tells) {
                // Few machines and steps leave the jobs that are in time alone, but clash.
                tell(random.nextInt(100) < sparse ? 2 + random.nextInt(2) : random.nextInt(8));
            } else {
                ask(random.nextInt(16));
            }
        }
    }

    /** Jobs that are in time alone, but for some not with one another: drawn calls seldom make these. */
    private void tellTightJobs() {
        both("machine(0)", () -> model.machine(0), () -> plans.machine(0));
        for (int j = 0; j < 6; j++) {
            int job = j;
            int hours = 1 + random.nextInt(9);
            int due = hours + random.nextInt(7);
            both("job(" + due + ", 1)", () -> model.job(due, 1), () -> plans.job(due, 1));
            both("step(" + job + ", 0, " + hours + ", 0)",
                () -> model.step(job, 0, hours, 0), () -> plans.step(job, 0, hours, 0));
        }
        for (int i = 0; i < 16; i++) {
            int k = i;
            both("clash(" + k + ")", () -> model.clash(k), () -> plans.clash(k));
        }
    }

    /** Most numbers are ordinary ones; some are at or far behind the edges. */
    private int draw(int least, int most) {
        if (random.nextInt(40) == 0) {
            return WILD[random.nextInt(WILD.length)];
        }
        return least + random.nextInt(most - least + 1);
    }

    private void both(String call, Expect.Call due, Expect.Call got) {
        calls++;
        Expect.same("run " + run + ", call " + calls + ": " + call, Expect.told(due), Expect.told(got));
    }

    private void tell(int which) {
        switch (which) {
            case 0 -> {
                int kind = draw(0, kinds - 1);
                both("machine(" + kind + ")", () -> model.machine(kind), () -> plans.machine(kind));
            }
            case 1 -> tellOut();
            case 2 -> {
                int due = draw(0, lateness);
                int weight = draw(0, 5);
                both("job(" + due + ", " + weight + ")", () -> model.job(due, weight), () -> plans.job(due, weight));
            }
            case 3 -> {
                int job = draw(0, 5);
                int due = draw(0, lateness);
                both("due(" + job + ", " + due + ")", () -> model.due(job, due), () -> {
                    plans.due(job, due);
                    return 0;
                });
            }
            default -> tellStep();
        }
    }

    private void tellOut() {
        int machine = draw(0, 5);
        int from = draw(0, lateness);
        int to = random.nextInt(40) == 0 ? draw(0, 2001) : from + draw(0, 12);
        both("out(" + machine + ", " + from + ", " + to + ")",
            () -> model.out(machine, from, to), () -> plans.out(machine, from, to));
    }

    private void tellStep() {
        int job = draw(0, 5);
        int kind = draw(0, kinds - 1);
        int hours = draw(1, 9);
        int wait = draw(0, 4);
        both("step(" + job + ", " + kind + ", " + hours + ", " + wait + ")",
            () -> model.step(job, kind, hours, wait), () -> plans.step(job, kind, hours, wait));
    }

    private void ask(int which) {
        int job = draw(0, 6);
        switch (which) {
            case 0 -> askRun();
            case 1 -> {
                int n = random.nextInt(4) == 0 ? draw(0, 100) : draw(0, 9);
                both("improve(" + n + ")", () -> model.improve(n), () -> plans.improve(n));
            }
            case 2, 3 -> both("alone(" + job + ")", () -> model.alone(job), () -> plans.alone(job));
            case 4, 5 -> both("promise(" + job + ")", () -> model.promise(job), () -> plans.promise(job));
            case 6 -> {
                int k = random.nextInt(4) == 0 ? draw(0, 15) : draw(0, 2);
                both("clash(" + k + ")", () -> model.clash(k), () -> plans.clash(k));
            }
            case 7, 8 -> both("order(" + job + ")", () -> model.order(job), () -> plans.order(job));
            case 9, 10 -> {
                int what = draw(0, 4);
                both("about(" + what + ")", () -> model.about(what), () -> plans.about(what));
            }
            case 11, 12 -> both("check()", model::check, plans::check);
            default -> {
                int step = draw(0, 24);
                int what = draw(0, 2);
                both("at(" + step + ", " + what + ")", () -> model.at(step, what), () -> plans.at(step, what));
            }
        }
    }

    private void askRun() {
        int most = random.nextInt(3) == 0 ? 2000 : 60;
        int nodes = draw(1, most);
        both("run(" + nodes + ")", () -> model.run(nodes), () -> plans.run(nodes));
    }
}
