/** Counts what is as it is due and what is not; each test ends with finish(). */
final class Check {
    static final Class<IllegalArgumentException> ARGUMENT = IllegalArgumentException.class;
    static final Class<IllegalStateException> STATE = IllegalStateException.class;
    static final Class<IndexOutOfBoundsException> INDEX = IndexOutOfBoundsException.class;

    private static int right = 0;
    private static int wrong = 0;
    private static String about = "";

    interface Call {
        void run();
    }

    private Check() {
    }

    /** What the next checks are about; it goes ahead of what each of them says. */
    static void about(String words) {
        about = words;
    }

    /** How many checks were made by now. */
    static int made() {
        return right + wrong;
    }

    static void due(String what, long got, long want) {
        note(got == want, what, String.valueOf(got), String.valueOf(want));
    }

    static void due(String what, boolean got, boolean want) {
        note(got == want, what, String.valueOf(got), String.valueOf(want));
    }

    static void due(String what, String got, String want) {
        note(got.equals(want), what, got, want);
    }

    /** The very class counts, and who throws it, since neither the machine nor the library is to throw. */
    static void refuses(String what, Class<? extends RuntimeException> want, Call call) {
        String got = "nothing thrown";
        try {
            call.run();
        } catch (RuntimeException e) {
            StackTraceElement[] trace = e.getStackTrace();
            boolean isOwn = trace.length > 0 && trace[0].getClassName().startsWith("Badgewood");
            got = isOwn ? e.getClass().getName() : e.getClass().getName() + " not by a throw of the class";
        }
        note(got.equals(want.getName()), what, got, want.getName());
    }

    private static void note(boolean isRight, String what, String got, String want) {
        if (isRight) {
            right++;
        } else {
            wrong++;
            System.out.println(about + what + ": got " + got + ", due is " + want);
        }
    }

    static void finish(String test) {
        System.out.println(test + ": " + right + " checks right, " + wrong + " wrong");
        System.exit(wrong == 0 ? 0 : 1);
    }
}
