/** Compares answers with those that are due, and counts. */
final class Check {
    private final String name;
    private int right;
    private int wrong;

    /** A call whose exception, or none, is looked at. */
    interface Call {
        void run();
    }

    Check(String name) {
        this.name = name;
    }

    void same(String what, long got, long due) {
        count(got == due, what, String.valueOf(got), String.valueOf(due));
    }

    void same(String what, boolean got, boolean due) {
        count(got == due, what, String.valueOf(got), String.valueOf(due));
    }

    /** No such case, claim, entry and so on. */
    void index(String what, Call call) {
        count(what, call, "IndexOutOfBoundsException");
    }

    void argument(String what, Call call) {
        count(what, call, "IllegalArgumentException");
    }

    void state(String what, Call call) {
        count(what, call, "IllegalStateException");
    }

    private void count(String what, Call call, String due) {
        String got = "nothing thrown";
        try {
            call.run();
        } catch (RuntimeException e) {
            got = e.getClass().getSimpleName();
        }
        count(got.equals(due), what, got, due);
    }

    private void count(boolean isRight, String what, String got, String due) {
        if (isRight) {
            right++;
        } else {
            wrong++;
            System.out.println(name + ": " + what + " answered " + got + ", due is " + due);
        }
    }

    /** Tells the counts, and ends the program with 1 if an answer was wrong. */
    void end() {
        System.out.println(name + ": " + right + " answers as due, " + wrong + " not");
        if (wrong != 0 || right == 0) {
            System.exit(1);
        }
    }
}
