/** Counts the answers that are not as due. */
final class Check {
    interface Call {
        Object answer();
    }

    private int wrong = 0;
    private String title = "";

    void title(String next) {
        title = next;
    }

    /** A test of its own, of the sentence that is its title: a call that throws in it does not end the others. */
    void test(String sentence, Runnable body) {
        title(sentence);
        try {
            body.run();
        } catch (RuntimeException e) {
            report("throws " + e.getClass().getSimpleName(), "nothing thrown", e);
        }
    }

    void is(Object due, Call call) {
        String got;
        try {
            got = String.valueOf(call.answer());
        } catch (RuntimeException e) {
            got = "throws " + e.getClass().getSimpleName();
        }
        if (!got.equals(String.valueOf(due))) report(got, String.valueOf(due), new Throwable());
    }

    private void report(String got, String due, Throwable from) {
        wrong++;
        System.out.println(title + ", line " + testLine(from.getStackTrace()) + ": " + got + ", due is " + due);
    }

    /** The line in the body of test(), else the first one of a test, not of what the tests share. */
    private static int testLine(StackTraceElement[] trace) {
        int first = 0;
        int latest = 0;
        for (StackTraceElement at : trace) {
            if (at.getClassName().equals("Check") && at.getMethodName().equals("test")) return latest;
            if (at.getClassName().endsWith("Test")) {
                latest = at.getLineNumber();
                first = first == 0 ? latest : first;
            }
        }
        return first;
    }

    void argument(Call call) {
        is("throws IllegalArgumentException", call);
    }

    void state(Call call) {
        is("throws IllegalStateException", call);
    }

    void bounds(Call call) {
        is("throws IndexOutOfBoundsException", call);
    }

    /** Ends the program with exit code 1 if an answer was wrong. */
    void end() {
        if (wrong > 0) {
            System.out.println(wrong + " answers are not as due");
            System.exit(1);
        }
    }
}
