import java.util.ArrayList;
import java.util.List;

/** Counts answers that are not the ones that are due. */
final class Expect {
    interface Call {
        long answer();
    }

    interface CallOf {
        long answer(int number);
    }

    static final Class<IndexOutOfBoundsException> INDEX = IndexOutOfBoundsException.class;
    static final Class<IllegalArgumentException> ARGUMENT = IllegalArgumentException.class;
    static final Class<IllegalStateException> STATE = IllegalStateException.class;

    private static final List<String> WRONG = new ArrayList<>();
    private static int looked = 0;
    private static String part = "";

    private Expect() {
    }

    /** What a call answers, in the words of the issues: a number, or throws. and the exception's name. */
    static String told(Call call) {
        try {
            return Long.toString(call.answer());
        } catch (RuntimeException e) {
            return "throws." + e.getClass().getSimpleName();
        }
    }

    static void same(String what, String due, String got) {
        looked++;
        if (!due.equals(got)) {
            WRONG.add(what);
            System.out.println(part + what + " answered " + got + ", due is " + due);
        }
    }

    static void answers(String what, long due, Call call) {
        same(what, Long.toString(due), told(call));
    }

    /** The very class: what the machine throws by itself may be a class below the one that is due. */
    static void refuses(String what, Class<? extends RuntimeException> due, Call call) {
        same(what, "throws." + due.getSimpleName(), told(call));
    }

    static void refusesEach(String what, Class<? extends RuntimeException> due, CallOf call, int... numbers) {
        for (int number : numbers) {
            refuses(what + " " + number, due, () -> call.answer(number));
        }
    }

    /** Runs a part of a test: its name stands before all that is wrong in it, and it must look at something. */
    static void part(String name, Runnable test) {
        part = name + ": ";
        int before = looked;
        try {
            test.run();
        } catch (RuntimeException e) {
            same("the test itself", "an end", "throws." + e.getClass().getSimpleName());
        }
        if (looked == before) {
            same("the test", "looks", "no look");
        }
        part = "";
    }

    static void end(String name) {
        System.out.println(name + ": " + looked + " looked at, " + WRONG.size() + " wrong");
        if (looked == 0 || !WRONG.isEmpty()) {
            System.exit(1);
        }
    }
}
