import java.util.Objects;

/** Compares answers with those that are due, and ends a test with exit code 1 if one differed. */
final class Check {
    static final Class<? extends RuntimeException> STATE = IllegalStateException.class;
    static final Class<? extends RuntimeException> INDEX = IndexOutOfBoundsException.class;
    static final Class<? extends RuntimeException> ARGUMENT = IllegalArgumentException.class;

    private static int checked = 0;
    private static int wrong = 0;

    private Check() {
    }

    static void same(String what, Object got, Object due) {
        checked++;
        if (!Objects.equals(got, due)) {
            wrong++;
            System.out.println(what + ": got " + got + ", due is " + due);
        }
    }

    static void fails(String what, Class<? extends RuntimeException> due, Runnable call) {
        Object got = "no exception";
        try {
            call.run();
        } catch (RuntimeException e) {
            got = e.getClass();
        }
        same(what, got, due);
    }

    static void end(String name) {
        System.out.println(name + ": " + checked + " checked, " + wrong + " wrong");
        if (wrong > 0) {
            System.exit(1);
        }
    }
}
