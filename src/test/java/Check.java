import java.util.function.IntConsumer;

/** Compares answers with those that are due, and counts. */
final class Check {
    private final String name;
    private String about = "";
    private int right;
    private int wrong;

    /** A call whose exception, or none, is looked at. */
    interface Call {
        void run();
    }

    Check(String name) {
        this.name = name;
    }

    /** Tells what the checks from now on are about. */
    void about(String told) {
        about = told + ": ";
    }

    void same(String what, long got, long due) {
        count(got == due, what, String.valueOf(got), String.valueOf(due));
    }

    void same(String what, boolean got, boolean due) {
        count(got == due, what, String.valueOf(got), String.valueOf(due));
    }

    void same(String what, String got, String due) {
        count(got.equals(due), what, got, due);
    }

    /** No such case, claim, entry and so on. */
    void index(String what, Courtdocket court, Call call) {
        refused(what, court, call, "IndexOutOfBoundsException");
    }

    void argument(String what, Courtdocket court, Call call) {
        refused(what, court, call, "IllegalArgumentException");
    }

    void state(String what, Courtdocket court, Call call) {
        refused(what, court, call, "IllegalStateException");
    }

    /** The numbers just beyond a range, and the farthest ones, are no such thing. */
    void index(String what, Courtdocket court, int least, int most, IntConsumer call) {
        for (int number : beyond(least, most)) {
            index(what + " " + number, court, () -> call.accept(number));
        }
    }

    /** The numbers just beyond a range, and the farthest ones, are out of range. */
    void argument(String what, Courtdocket court, int least, int most, IntConsumer call) {
        for (int number : beyond(least, most)) {
            argument(what + " " + number, court, () -> call.accept(number));
        }
    }

    /** A call that throws what is not due for it. */
    void failed(Throwable thrown) {
        count(false, "the test itself", String.valueOf(thrown), "no exception");
    }

    private static int[] beyond(int least, int most) {
        return new int[] {least - 1, most + 1, Integer.MIN_VALUE, Integer.MAX_VALUE};
    }

    /** The exception must be the one that is due, by its own class, and nothing may have changed behind it. */
    private void refused(String what, Courtdocket court, Call call, String due) {
        String before = Inside.of(court);
        String got = thrown(call);
        count(got.equals(due), what, got, due);
        count(Inside.of(court).equals(before), what, "and changed something", "no change");
    }

    private static String thrown(Call call) {
        try {
            call.run();
            return "nothing thrown";
        } catch (RuntimeException e) {
            return e.getClass().getSimpleName();
        }
    }

    private void count(boolean isRight, String what, String got, String due) {
        if (isRight) {
            right++;
        } else {
            wrong++;
            System.out.println(name + ": " + about + what + " answered " + got + ", due is " + due);
        }
    }

    /** Tells the counts, and ends the program with 1 if an answer was wrong. */
    void end() {
        System.out.println(name + ": " + right + " answers as due, " + wrong + " not");
        if (wrong != 0 || right == 0) {
            System.exit(1);
        }
    }
}
