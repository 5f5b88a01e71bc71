import java.util.function.Supplier;

/** Checks that many promises share. */
final class Limits {
    /** A call of the face with a number. */
    interface Numbered {
        void call(Courtdocket court, int number);
    }

    /** A call of the face. */
    interface Made {
        void call(Courtdocket court);
    }

    private Limits() {
    }

    /** Of things that are numbered from 0 there are none but the first ones, and none at all on a new object. */
    static void noSuch(Check check, String what, Courtdocket court, int count, Numbered made) {
        check.index(what, court, 0, count - 1, number -> made.call(court, number));
        Courtdocket fresh = new Courtdocket();
        check.index("of none: " + what, fresh, () -> made.call(fresh, 0));
    }

    /** A call that makes an entry makes the 160th one, and no 161st. */
    static void atMost160Entries(Check check, Supplier<Courtdocket> ready, Made made) {
        Courtdocket court = ready.get();
        Scene.fill(court, court.open(0), 159);
        made.call(court);
        check.same("the 160th", court.entries(), 160);
        Courtdocket full = ready.get();
        Scene.fill(full, full.open(0), 160);
        check.state("a 161st", full, () -> made.call(full));
        check.same("there are 160", full.entries(), 160);
    }
}
