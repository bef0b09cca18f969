import java.util.Objects;

/** Compares answers with those that are due, and ends a test with exit code 1 if one differed. */
final class Check {
    static final Class<? extends RuntimeException> STATE = IllegalStateException.class;
    static final Class<? extends RuntimeException> INDEX = IndexOutOfBoundsException.class;
    static final Class<? extends RuntimeException> ARGUMENT = IllegalArgumentException.class;

    private static String about = "";
    private static int checked = 0;
    private static int wrong = 0;

    private Check() {
    }

    /** What the next checks are about; their reports begin with it. */
    static void about(String what) {
        about = what;
    }

    static int checkedSoFar() {
        return checked;
    }

    static void same(String what, Object got, Object due) {
        checked++;
        if (!Objects.equals(got, due)) {
            wrong++;
            report(what, String.valueOf(got).split("\n", -1), String.valueOf(due).split("\n", -1));
        }
    }

    /** Of long texts, only the first line that differs; of many differences, only the first ones. */
    private static void report(String what, String[] got, String[] due) {
        if (wrong > 20) {
            return;
        }
        int line = 0;
        while (line < got.length - 1 && line < due.length - 1 && got[line].equals(due[line])) {
            line++;
        }
        System.out.println(about + what + ": got " + got[line] + ", due is " + due[line]);
    }

    static void fails(String what, Class<? extends RuntimeException> due, Runnable call) {
        Object got = "no exception";
        try {
            call.run();
        } catch (RuntimeException e) {
            got = e.getClass();
        }
        same(what, got, due);
    }

    static void end(String name) {
        System.out.println(name + ": " + checked + " checked, " + wrong + " wrong");
        if (wrong > 0) {
            System.exit(1);
        }
    }
}
