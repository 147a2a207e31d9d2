/** Counts what is due and what is not, for the tests of the project. */
final class Check {
    private static int wrong = 0;
    private static int right = 0;
    private static String where = "";

    interface Call {
        void make();
    }

    private Check() {
    }

    static void same(String what, Object answer, Object due) {
        if (due.equals(answer)) {
            right++;
        } else {
            fail(what + " answered " + answer + ", due is " + due);
        }
    }

    static void fail(String what) {
        wrong++;
        System.out.println("WRONG: " + where + what);
    }

    /** Makes the checks of a test; an exception that none of them is due for is a wrong answer of this test. */
    static void during(String what, Runnable test) {
        where = what + ": ";
        try {
            test.run();
        } catch (RuntimeException thrown) {
            fail("a call throws " + thrown);
        }
        where = "";
    }

    /** The exception must be the very class that the document names, thrown by a line of Mailmerge. */
    static void refuses(String what, Class<? extends RuntimeException> due, Call call) {
        try {
            call.make();
            fail(what + " answered, due is " + due.getSimpleName());
        } catch (RuntimeException thrown) {
            same(what + " throws", thrown.getClass(), due);
            same(what + " thrown by the class itself", isThrownByTheClass(thrown), true);
        }
    }

    static boolean isThrownByTheClass(Throwable thrown) {
        StackTraceElement[] trace = thrown.getStackTrace();
        return trace.length > 0 && trace[0].getClassName().startsWith("Mailmerge");
    }

    static void end(String test) {
        System.out.println(test + ": " + right + " answers as due, " + wrong + " not");
        if (wrong != 0) {
            System.exit(1);
        }
    }
}
