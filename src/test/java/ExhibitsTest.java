/** Promises 30 to 34: exhibit, hand, object, sustain, isAdmitted. */
public final class ExhibitsTest {
    private static final Check CHECK = new Check("ExhibitsTest");

    private ExhibitsTest() {
    }

    public static void main(String[] args) {
        exhibit();
        hand();
        object();
        CHECK.end();
    }

    private static void exhibit() {
        Courtdocket court = Scene.opened();
        CHECK.index("case 1", court, () -> court.exhibit(1, 0));
        CHECK.index("case -1", court, () -> court.exhibit(-1, 0));
        CHECK.index("person 16", court, () -> court.exhibit(0, 16));
        CHECK.index("person -1", court, () -> court.exhibit(0, -1));
        for (int exhibit = 0; exhibit < 12; exhibit++) {
            CHECK.same("exhibit", court.exhibit(0, 15 - exhibit), exhibit);
        }
        CHECK.state("a 13th", court, () -> court.exhibit(0, 0));
        CHECK.index("range ahead of the state", court, () -> court.exhibit(0, 16));
        CHECK.index("isAdmitted 12", court, () -> court.isAdmitted(12));
        CHECK.index("isAdmitted -1", court, () -> court.isAdmitted(-1));
        CHECK.same("admitted", court.isAdmitted(11), true);
    }

    private static void hand() {
        Courtdocket court = Scene.opened();
        court.exhibit(0, 9);
        court.exhibit(0, 9);
        CHECK.index("exhibit 2", court, () -> court.hand(2, 9, 1));
        CHECK.index("exhibit -1", court, () -> court.hand(-1, 9, 1));
        CHECK.index("from 16", court, () -> court.hand(0, 16, 1));
        CHECK.index("from -1", court, () -> court.hand(0, -1, 1));
        CHECK.index("to 16", court, () -> court.hand(0, 9, 16));
        CHECK.index("to -1", court, () -> court.hand(0, 9, -1));
        CHECK.same("from 9 to 1", court.hand(0, 9, 1), true);
        CHECK.same("from 1 to 15", court.hand(0, 1, 15), true);
        CHECK.same("admitted", court.isAdmitted(0), true);
        CHECK.same("not from 1", court.hand(0, 1, 3), false);
        CHECK.same("not admitted", court.isAdmitted(0), false);
        CHECK.same("broken for ever", court.hand(0, 3, 4), false);
        CHECK.same("the other one is whole", court.hand(1, 9, 0), true);
        CHECK.same("and admitted", court.isAdmitted(1), true);
        CHECK.same("it is in the hand of the latter all the same", court.hand(1, 9, 5), false);
    }

    private static void object() {
        Courtdocket court = Scene.opened();
        court.exhibit(0, 0);
        court.exhibit(0, 0);
        CHECK.index("object: exhibit 2", court, () -> court.object(2, 0));
        CHECK.index("object: exhibit -1", court, () -> court.object(-1, 0));
        CHECK.index("object: side 2", court, () -> court.object(0, 2));
        CHECK.index("object: side -1", court, () -> court.object(0, -1));
        CHECK.index("sustain: exhibit 2", court, () -> court.sustain(2, 0, true));
        CHECK.index("sustain: exhibit -1", court, () -> court.sustain(-1, 0, true));
        CHECK.index("sustain: side 2", court, () -> court.sustain(0, 2, true));
        CHECK.index("sustain: side -1", court, () -> court.sustain(0, -1, true));
        CHECK.state("none has objected", court, () -> court.sustain(0, 0, false));
        court.object(0, 0);
        CHECK.same("not admitted", court.isAdmitted(0), false);
        CHECK.state("once", court, () -> court.object(0, 0));
        CHECK.state("the side 1 has not", court, () -> court.sustain(0, 1, true));
        court.sustain(0, 0, false);
        CHECK.same("not sustained: admitted", court.isAdmitted(0), true);
        CHECK.state("decided", court, () -> court.sustain(0, 0, true));
        CHECK.state("once, whatever came of it", court, () -> court.object(0, 0));
        court.object(0, 1);
        CHECK.same("the other side", court.isAdmitted(0), false);
        court.sustain(0, 1, true);
        CHECK.same("sustained", court.isAdmitted(0), false);
        CHECK.state("decided, too", court, () -> court.sustain(0, 1, false));
        CHECK.same("another exhibit", court.isAdmitted(1), true);
        court.object(1, 1);
        court.object(1, 0);
        court.sustain(1, 0, false);
        CHECK.same("one is open", court.isAdmitted(1), false);
        court.sustain(1, 1, false);
        CHECK.same("none is", court.isAdmitted(1), true);
    }
}
