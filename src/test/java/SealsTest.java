/** Promises 35 and 36: seal, maySee. */
public final class SealsTest {
    private static final Check CHECK = new Check("SealsTest");

    private SealsTest() {
    }

    public static void main(String[] args) {
        range();
        sealed();
        parties();
        severed();
        ofCase();
        often();
        CHECK.end();
    }

    private static void range() {
        Courtdocket court = Scene.served();
        court.pass(3);
        CHECK.index("seal 1", court, () -> court.seal(1, true));
        CHECK.index("seal -1", court, () -> court.seal(-1, true));
        CHECK.index("maySee 1", court, () -> court.maySee(1, 0, 0));
        CHECK.index("maySee -1", court, () -> court.maySee(-1, 0, 0));
        CHECK.index("person 16", court, () -> court.maySee(0, 16, 9));
        CHECK.index("person -1", court, () -> court.maySee(0, -1, 0));
        CHECK.argument("day -1", court, () -> court.maySee(0, 0, -1));
        CHECK.argument("day 4", court, () -> court.maySee(0, 0, 4));
        CHECK.same("today", court.maySee(0, 9, 3), true);
        court.answer(0);
        CHECK.same("on its own day", court.maySee(1, 9, 3), true);
        CHECK.same("ahead of its own day", court.maySee(1, 9, 2), false);
        CHECK.same("parties neither", court.maySee(1, 0, 2), false);
    }

    private static void sealed() {
        Courtdocket court = Scene.served();
        CHECK.same("unseal", court.seal(0, false), false);
        court.pass(2);
        CHECK.same("seal", court.seal(0, true), true);
        CHECK.same("sealed already", court.seal(0, true), false);
        CHECK.same("not on the day ahead", court.maySee(0, 9, 1), true);
        CHECK.same("on that day", court.maySee(0, 9, 2), false);
        CHECK.same("a party", court.maySee(0, 1, 2), true);
        court.pass(2);
        CHECK.same("still", court.maySee(0, 9, 4), false);
        CHECK.same("unseal", court.seal(0, false), true);
        CHECK.same("from that day on", court.maySee(0, 9, 4), true);
        CHECK.same("not on the day ahead", court.maySee(0, 9, 3), false);
        CHECK.same("sealed and unsealed on a day: sealed", court.seal(0, true), true);
        CHECK.same("the last counts", court.maySee(0, 9, 4), false);
        court.seal(0, false);
        CHECK.same("the last counts again", court.maySee(0, 9, 4), true);
        court.answer(0);
        court.seal(1, true);
        CHECK.same("another entry", court.maySee(1, 9, 4), false);
        CHECK.same("ahead of its own day", court.maySee(1, 0, 3), false);
        CHECK.same("this one is not sealed", court.maySee(0, 9, 4), true);
    }

    private static void parties() {
        Courtdocket court = Scene.served();
        court.seal(0, true);
        court.pass(3);
        court.join(0, 9, 0);
        CHECK.same("9 from its day on", court.maySee(0, 9, 3), true);
        CHECK.same("not ahead", court.maySee(0, 9, 2), false);
        CHECK.same("2 is a party, if not of the claim", court.maySee(0, 2, 0), true);
    }

    private static void severed() {
        Courtdocket court = Scene.served();
        court.seal(0, true);
        court.pass(3);
        court.sever(0);
        CHECK.same("0 from that day on", court.maySee(0, 0, 3), true);
        CHECK.same("1 from that day on", court.maySee(0, 1, 3), true);
        CHECK.same("not ahead", court.maySee(0, 0, 2), false);
        CHECK.same("2 is in the old case", court.maySee(0, 2, 3), false);
        court.join(1, 2, 0);
        CHECK.same("2 joins", court.maySee(0, 2, 3), true);
    }

    private static void ofCase() {
        Courtdocket court = Scene.served();
        court.open(0);
        court.join(1, 5, 0);
        court.stay(1, true);
        court.seal(1, true);
        CHECK.same("a party of the case of a STAY", court.maySee(1, 5, 0), true);
        CHECK.same("of another case", court.maySee(1, 0, 0), false);
    }

    /** As many sealings and unsealings as calls are left. */
    private static void often() {
        Courtdocket court = Scene.served();
        boolean isSealed = true;
        for (int call = 0; call < 500; call++) {
            CHECK.same("seal " + call, court.seal(0, isSealed), true);
            isSealed = !isSealed;
        }
        CHECK.same("unsealed in the end", court.maySee(0, 9, 0), true);
        // What is answered behind the 512th call is free, but the machine must not throw.
        for (int call = 0; call < 100; call++) {
            court.seal(0, call % 2 == 0);
        }
    }
}
