/** Counts the answers that are not as due. */
final class Check {
    interface Call {
        Object answer();
    }

    private int wrong = 0;
    private String title = "";

    void title(String next) {
        title = next;
    }

    void is(Object due, Call call) {
        String got;
        try {
            got = String.valueOf(call.answer());
        } catch (RuntimeException e) {
            got = "throws " + e.getClass().getSimpleName();
        }
        if (!got.equals(String.valueOf(due))) {
            wrong++;
            StackTraceElement at = new Throwable().getStackTrace()[1];
            if (at.getClassName().equals("Check")) at = new Throwable().getStackTrace()[2];
            System.out.println(title + ", line " + at.getLineNumber() + ": " + got + ", due is " + due);
        }
    }

    void argument(Call call) {
        is("throws IllegalArgumentException", call);
    }

    void state(Call call) {
        is("throws IllegalStateException", call);
    }

    void bounds(Call call) {
        is("throws IndexOutOfBoundsException", call);
    }

    /** Ends the program with exit code 1 if an answer was wrong. */
    void end() {
        if (wrong > 0) {
            System.out.println(wrong + " answers are not as due");
            System.exit(1);
        }
    }
}
