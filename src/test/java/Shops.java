/** Shops that several tests begin with, and looks at their plans. */
final class Shops {
    static final int LOW = Integer.MIN_VALUE;
    static final int HIGH = Integer.MAX_VALUE;

    private Shops() {
    }

    /** A shop of one machine of kind 0 and one job of one step for each pair of due hour and hours, weights 1. */
    static WorkPlans oneMachine(int... duesAndHours) {
        return seeded(1, duesAndHours);
    }

    static WorkPlans seeded(int seed, int... duesAndHours) {
        WorkPlans w = new WorkPlans(seed);
        w.machine(0);
        for (int i = 0; i + 1 < duesAndHours.length; i += 2) {
            w.step(w.job(duesAndHours[i], 1), 0, duesAndHours[i + 1], 0);
        }
        return w;
    }

    /** Six machines of kinds 0 to 3, six jobs of four steps, eight spans each: there is no room for anything more. */
    static WorkPlans full(int seed) {
        WorkPlans w = new WorkPlans(seed);
        for (int m = 0; m < 6; m++) {
            w.machine(m % 4);
            for (int i = 0; i < 8; i++) {
                w.out(m, 7 * i + m, 7 * i + m + 2);
            }
        }
        for (int j = 0; j < 6; j++) {
            w.job(60 - 9 * j, j + 1);
            for (int i = 0; i < 4; i++) {
                w.step(j, (i + j) % 4, 1 + (i * j) % 4, i);
            }
        }
        return w;
    }

    static long tellDue(WorkPlans w, int job, int due) {
        w.due(job, due);
        return 0;
    }

    static void orderIs(String what, WorkPlans w, int... jobs) {
        for (int k = 0; k < jobs.length; k++) {
            int place = k;
            Expect.answers(what + ": order(" + k + ")", jobs[k], () -> w.order(place));
        }
        Expect.refuses(what + ": order behind the last", Expect.INDEX, () -> w.order(jobs.length));
    }

    static void isAt(String what, WorkPlans w, int step, int hour, int machine) {
        Expect.answers(what + ": at(" + step + ", 0)", hour, () -> w.at(step, 0));
        Expect.answers(what + ": at(" + step + ", 1)", machine, () -> w.at(step, 1));
    }

    static void aboutIs(String what, WorkPlans w, long... due) {
        for (int i = 0; i < due.length; i++) {
            int which = i;
            Expect.answers(what + ": about(" + i + ")", due[i], () -> w.about(which));
        }
    }

    /** What all calls answer that only ask, one number behind the last one too. */
    static String allAnswers(WorkPlans w) {
        StringBuilder all = new StringBuilder();
        add(all, " hours", 25, step -> w.at(step, 0));
        add(all, " machines", 25, step -> w.at(step, 1));
        add(all, " order", 7, w::order);
        add(all, " about", 5, w::about);
        add(all, " alone", 7, w::alone);
        add(all, " promises", 7, w::promise);
        add(all, " clashes", 16, w::clash);
        add(all, " check", 1, none -> w.check());
        return all.toString();
    }

    private static void add(StringBuilder all, String name, int count, Expect.CallOf call) {
        all.append(name);
        for (int i = 0; i < count; i++) {
            int number = i;
            all.append(' ').append(Expect.told(() -> call.answer(number)));
        }
    }
}
