/** The document's first lines, by one workshop that was planned by hand. */
public final class WhatItIsTest {
    private static final String SECTION = "What it is";
    private static final int CHAIR = 0;
    private static final int TABLE = 1;
    private static final int SHELF = 2;
    private static final int STOOL = 3;
    private static final int SAW = 0;
    private static final int PRESS = 1;
    private static final int BOOTH = 2;

    public static void main(String[] args) {
        Sentences d = new Sentences(SECTION);
        d.more(4, SECTION, "Jobs through a workshop:", WhatItIsTest::jobs);
        d.more(6, SECTION, "steps one behind the other with waits for glue and coats,", WhatItIsTest::steps);
        d.more(3, SECTION, "machines by kinds that are out for some hours,", WhatItIsTest::machines);
        d.more(10, SECTION, "plans by orders of jobs,", WhatItIsTest::orders);
        d.more(7, SECTION, "the best order by branches and bounds", WhatItIsTest::branches);
        d.more(8, SECTION, "or by seeded changes,", WhatItIsTest::changes);
        d.more(14, SECTION, "jobs that clash,", WhatItIsTest::clashes);
        d.more(13, SECTION, "promised ends,", WhatItIsTest::promises);
        d.more(11, SECTION, "what changed,", WhatItIsTest::whatChanged);
        d.more(15, SECTION, "all rules looked at apart.", WhatItIsTest::rules);
        d.more(1, SECTION, "An object is used for at most 512 calls after it has been made;", WhatItIsTest::all512Calls);
        d.more(1, SECTION, "what later calls answer is free.", WhatItIsTest::laterCalls);
        d.end("WhatItIsTest");
    }

    /** A saw, a press that is out from 4 up to 8, and a booth for coats; chair, table, shelf and stool. */
    private static WorkPlans workshop() {
        WorkPlans w = new WorkPlans(7);
        w.machine(0);
        w.machine(1);
        w.machine(2);
        w.out(PRESS, 4, 8);
        w.job(20, 3);
        w.step(CHAIR, 0, 2, 0);
        w.step(CHAIR, 1, 3, 12);
        w.step(CHAIR, 2, 1, 0);
        w.job(10, 1);
        w.step(TABLE, 0, 4, 0);
        w.step(TABLE, 1, 2, 5);
        w.job(3, 2);
        w.step(SHELF, 0, 3, 0);
        w.job(4, 1);
        w.step(STOOL, 0, 4, 0);
        return w;
    }

    private static void jobs() {
        WorkPlans w = workshop();
        // The chair's glue begins behind the press's span at 8, holds up to 11, dries up to 23, and is coated up to 24.
        Expect.answers("the chair alone", 3 * (24 - 20), () -> w.alone(CHAIR));
        Expect.answers("the table alone", 0, () -> w.alone(TABLE));
        Expect.answers("the shelf alone", 0, () -> w.alone(SHELF));
        Expect.answers("the stool alone", 0, () -> w.alone(STOOL));
        Expect.refuses("no fifth job", Expect.INDEX, () -> w.alone(4));
    }

    private static void steps() {
        WorkPlans w = workshop();
        w.run(2000);
        Shops.isAt("cut, behind the shelf", w, 0, 3, SAW);
        Shops.isAt("glued, behind the span", w, 1, 8, PRESS);
        Shops.isAt("coated, behind the glue's wait", w, 2, 8 + 3 + 12, BOOTH);
    }

    private static void machines() {
        WorkPlans w = workshop();
        w.machine(1);
        Expect.answers("a second press that is not out", 0, () -> w.alone(CHAIR));
        w.out(3, 0, 100);
        Expect.answers("it is out for longer", 12, () -> w.alone(CHAIR));
    }

    private static void orders() {
        WorkPlans w = workshop();
        Expect.answers("a plan by due", 1, () -> w.run(1));
        Shops.orderIs("by due", w, SHELF, STOOL, TABLE, CHAIR);
        Expect.answers("its cost", 0 + 3 + 3 + 27, () -> w.about(0));
    }

    private static void branches() {
        WorkPlans w = workshop();
        Expect.answers("closed", 0, () -> w.run(2000));
        Shops.orderIs("the best", w, SHELF, CHAIR, STOOL, TABLE);
        Expect.answers("its cost", 0 + 12 + 5 + 5, () -> w.about(0));
        Expect.answers("its bound", 12, () -> w.about(1));
    }

    private static void changes() {
        WorkPlans w = workshop();
        w.run(1);
        Expect.answers("shelf stool table chair, then with table and stool behind the chair", 2, () -> w.improve(10));
        Shops.orderIs("the best here too", w, SHELF, CHAIR, STOOL, TABLE);
        Expect.answers("none is better", 0, () -> w.improve(100));
    }

    private static void clashes() {
        WorkPlans w = workshop();
        Expect.answers("shelf and stool", 8 * SHELF + STOOL, () -> w.clash(0));
        Expect.answers("no others", WorkPlans.NONE, () -> w.clash(1));
    }

    private static void promises() {
        WorkPlans w = workshop();
        w.run(2000);
        Expect.answers("the chair", 24, () -> w.promise(CHAIR));
        Expect.answers("the table", 15, () -> w.promise(TABLE));
        Expect.answers("the shelf", 3, () -> w.promise(SHELF));
        Expect.answers("the stool", 9, () -> w.promise(STOOL));
    }

    private static void whatChanged() {
        WorkPlans w = workshop();
        w.run(1);
        Expect.answers("all are new", 7, () -> w.about(3));
        w.run(2000);
        Expect.answers("all but the shelf's", 6, () -> w.about(3));
        w.out(SAW, 0, 1);
        w.step(STOOL, 2, 2, 0);
        w.run(2000);
        Shops.orderIs("as before", w, SHELF, CHAIR, STOOL, TABLE);
        Expect.answers("not the chair's glue and coat", 6, () -> w.about(3));
    }

    private static void rules() {
        WorkPlans w = workshop();
        w.run(2000);
        Expect.answers("the chair is late", 500 + CHAIR, w::check);
        w.due(CHAIR, 24);
        Expect.answers("the table is late", 500 + TABLE, w::check);
        w.due(TABLE, 15);
        w.due(STOOL, 9);
        Expect.answers("none is late", 0, w::check);
        w.out(SAW, 0, 1);
        Expect.answers("the saw is out while it cuts the shelf", 405, w::check);
        w.step(STOOL, 2, 2, 0);
        Expect.answers("the stool's coat is not in the plan", 107, w::check);
        w.run(2000);
        Expect.answers("planned anew, the table is late", 500 + TABLE, w::check);
    }

    /** The calls that have the most to do, from a new object up to its last promised call. */
    private static void all512Calls() {
        WorkPlans w = Shops.full(11);
        int told = 6 + 6 * 8 + 6 + 24;
        Expect.answers("a first run", 0, () -> w.run(2000));
        Expect.answers("a first improve of the best", 0, () -> w.improve(100));
        long cost = w.about(0);
        for (int call = told + 3; call + 3 <= 512; call += 3) {
            Expect.answers("run behind call " + call, 0, () -> w.run(2000));
            Expect.answers("improve behind call " + call, 0, () -> w.improve(100));
            Expect.answers("cost behind call " + call, cost, () -> w.about(0));
        }
    }

    /** Their answers are free, but LANGUAGE.md's rule 7 holds for them too: what they throw is thrown by the class. */
    private static void laterCalls() {
        WorkPlans w = Shops.full(11);
        for (int call = 0; call < 2000; call++) {
            w.run(1 + call % 20);
            w.improve(call % 5);
        }
        String all = Shops.allAnswers(w);
        String foreign = all.replaceAll("throws\\.(IndexOutOfBounds|IllegalArgument|IllegalState)Exception", "");
        Expect.same("thrown by others", "false", Boolean.toString(foreign.contains("throws")));
    }
}
