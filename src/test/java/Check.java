import java.util.function.IntUnaryOperator;

/** Compares answers with the due ones, prints those that differ, and fails the test for them. */
final class Check {
    interface Call {
        long answer();
    }

    private static int wrong = 0;
    private static int made = 0;
    private static String subject = "";

    private Check() {
    }

    /** What the checks that follow are about: told ahead of each that fails. */
    static void about(String newSubject) {
        subject = newSubject.isEmpty() ? "" : newSubject + ": ";
    }

    static int made() {
        return made;
    }

    static void equal(String what, long got, long due) {
        made++;
        if (got != due) {
            fails(what + " answered " + got + ", due is " + due);
        }
    }

    static void isTrue(String what, boolean holds) {
        equal(what, holds ? 1 : 0, 1);
    }

    /** The very class is due: a subclass, such as one that the machine throws, does not do. */
    static void throwsOf(String what, Class<? extends RuntimeException> due, Call call) {
        made++;
        String got;
        try {
            got = "answered " + call.answer();
        } catch (RuntimeException e) {
            if (e.getClass() == due) {
                return;
            }
            got = "threw " + e.getClass().getName();
        }
        fails(what + " " + got + ", due is a throw of " + due.getName());
    }

    static void throwsForEach(String what, Class<? extends RuntimeException> due, int[] numbers,
            IntUnaryOperator call) {
        for (int number : numbers) {
            throwsOf(what + " " + number, due, () -> call.applyAsInt(number));
        }
    }

    private static void fails(String what) {
        wrong++;
        System.out.println(subject + what);
    }

    static int toInt(boolean answer) {
        return answer ? 1 : 0;
    }

    static int set(int... numbers) {
        int set = 0;
        for (int number : numbers) {
            set |= 1 << number;
        }
        return set;
    }

    static void end() {
        System.out.println(made + " answers looked at, " + wrong + " wrong");
        if (made == 0 || wrong != 0) {
            System.exit(1);
        }
    }
}
