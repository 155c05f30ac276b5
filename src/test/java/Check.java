/** Counts what a test finds wrong, and ends the test with exit code 1 if there was anything. */
final class Check {
    interface Call {
        void run();
    }

    private static int checks = 0;
    private static int wrong = 0;

    private Check() {
    }

    static void same(String what, long got, long due) {
        checks++;
        if (got != due) {
            wrong++;
            System.out.println(what + " answered " + got + ", due is " + due);
        }
    }

    static void same(String what, boolean got, boolean due) {
        same(what, got ? 1 : 0, due ? 1 : 0);
    }

    static void same(String what, String got, String due) {
        checks++;
        if (!got.equals(due)) {
            wrong++;
            System.out.println(what + " answered " + got + ", due is " + due);
        }
    }

    /** That the call throws the very class: no class of the machine's own below it. */
    static void thrown(String what, Class<? extends RuntimeException> due, Call call) {
        String got = "nothing";
        try {
            call.run();
        } catch (RuntimeException e) {
            got = e.getClass().getName();
        }
        same(what + " throws", got, due.getName());
    }

    static void noSuch(String what, Call call) {
        thrown(what, IndexOutOfBoundsException.class, call);
    }

    static void badArgument(String what, Call call) {
        thrown(what, IllegalArgumentException.class, call);
    }

    static void badState(String what, Call call) {
        thrown(what, IllegalStateException.class, call);
    }

    static void end() {
        System.out.println(checks + " checks, " + wrong + " wrong");
        if (wrong != 0 || checks == 0) {
            System.exit(1);
        }
    }
}
