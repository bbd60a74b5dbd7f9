/** Counts what the tests find and prints what is not as due. */
final class Check {
    private static int right;
    private static int wrong;

    private Check() {
    }

    interface Call {
        Object answer();
    }

    static void same(String what, Object due, Object got) {
        if (due.equals(got)) {
            right++;
        } else {
            wrong++;
            System.out.println(what + ": due is " + due + ", got " + got);
        }
    }

    /** The call must throw exactly this exception, by a throw statement of the program itself. */
    static void refused(String what, Class<? extends RuntimeException> due, Call call) {
        same(what, "throws " + due.getName(), outcome(call));
    }

    /** Tells what a call answers, or what it throws and whether the machine or the library threw it. */
    static String outcome(Call call) {
        try {
            return String.valueOf(call.answer());
        } catch (RuntimeException e) {
            StackTraceElement[] trace = e.getStackTrace();
            boolean own = trace.length > 0 && isOfTheProject(trace[0].getClassName());
            return "throws " + e.getClass().getName() + (own ? "" : " by itself");
        }
    }

    private static boolean isOfTheProject(String className) {
        return className.startsWith("CircusLedger") || className.startsWith("ReferenceCircus");
    }

    static void finish() {
        System.out.println(right + " checks as due, " + wrong + " not as due");
        if (wrong != 0 || right == 0) {
            System.exit(1);
        }
    }
}
