/** Promises 27 to 29: strike, dismiss, seat. */
public final class JuriesTest {
    private static final Check CHECK = new Check("JuriesTest");

    private JuriesTest() {
    }

    public static void main(String[] args) {
        strike();
        seat();
        dismiss();
        CHECK.end();
    }

    /** Two cases; in the case 0 the jurors 1, 3, 5, 7, 9 and 11 are struck. */
    private static Courtdocket seated() {
        Courtdocket court = new Courtdocket();
        court.open(0);
        court.open(0);
        for (int i = 0; i < 6; i++) {
            CHECK.same("strike " + i, court.strike(0, i % 2, 11 - 2 * i), i + 1);
        }
        return court;
    }

    private static void strike() {
        Courtdocket court = new Courtdocket();
        court.open(0);
        CHECK.index("case 1", court, () -> court.strike(1, 0, 0));
        CHECK.index("case -1", court, () -> court.strike(-1, 0, 0));
        CHECK.index("side 2", court, () -> court.strike(0, 2, 0));
        CHECK.index("side -1", court, () -> court.strike(0, -1, 0));
        CHECK.index("juror 14", court, () -> court.strike(0, 0, 14));
        CHECK.index("juror -1", court, () -> court.strike(0, 0, -1));
        CHECK.state("the side 0 is first", court, () -> court.strike(0, 1, 0));
        CHECK.same("the first", court.strike(0, 0, 13), 1);
        CHECK.state("not again", court, () -> court.strike(0, 0, 12));
        CHECK.state("struck", court, () -> court.strike(0, 1, 13));
        CHECK.same("the second", court.strike(0, 1, 0), 2);
        Courtdocket done = seated();
        CHECK.state("all are done", done, () -> done.strike(0, 0, 0));
        CHECK.state("for both sides", done, () -> done.strike(0, 1, 0));
        CHECK.index("range ahead of the state", done, () -> done.strike(0, 0, 14));
        CHECK.same("another case has its own pool", done.strike(1, 0, 1), 1);
    }

    private static void seat() {
        Courtdocket court = seated();
        CHECK.index("case 2", court, () -> court.seat(2, 0));
        CHECK.index("case -1", court, () -> court.seat(-1, 0));
        CHECK.index("seat 7", court, () -> court.seat(0, 7));
        CHECK.index("seat -1", court, () -> court.seat(0, -1));
        int[] due = {0, 2, 4, 6, 8, 10, 12};
        for (int seat = 0; seat < 7; seat++) {
            CHECK.same("seat " + seat, court.seat(0, seat), due[seat]);
        }
        for (int i = 0; i < 5; i++) {
            court.strike(1, i % 2, i);
            for (int seat = 0; seat < 7; seat++) {
                CHECK.same("no seat yet", court.seat(1, seat), -1);
            }
        }
        court.strike(1, 1, 8);
        CHECK.same("seated at once", court.seat(1, 0), 5);
        CHECK.same("over the struck 8", court.seat(1, 3), 9);
        CHECK.same("the alternate", court.seat(1, 6), 12);
    }

    private static void dismiss() {
        Courtdocket court = seated();
        CHECK.index("case 2", court, () -> court.dismiss(2, 0));
        CHECK.index("case -1", court, () -> court.dismiss(-1, 0));
        CHECK.index("juror 14", court, () -> court.dismiss(0, 14));
        CHECK.index("juror -1", court, () -> court.dismiss(0, -1));
        CHECK.state("struck", court, () -> court.dismiss(0, 1));
        CHECK.state("an alternate", court, () -> court.dismiss(0, 12));
        CHECK.state("no jury yet", court, () -> court.dismiss(1, 0));
        CHECK.same("the first alternate", court.dismiss(0, 4), 12);
        CHECK.same("in that seat", court.seat(0, 2), 12);
        CHECK.same("the next alternate", court.seat(0, 6), 13);
        CHECK.state("gone", court, () -> court.dismiss(0, 4));
        CHECK.same("one that was an alternate", court.dismiss(0, 12), 13);
        CHECK.same("in that seat too", court.seat(0, 2), 13);
        CHECK.same("none is left", court.seat(0, 6), -1);
        CHECK.state("so none goes", court, () -> court.dismiss(0, 0));
        CHECK.same("the others sit still", court.seat(0, 5), 10);
        Courtdocket ends = seated();
        CHECK.same("the first seat", ends.dismiss(0, 0), 12);
        CHECK.same("the last seat", ends.dismiss(0, 10), 13);
        CHECK.same("12 in the first", ends.seat(0, 0), 12);
        CHECK.same("13 in the last", ends.seat(0, 5), 13);
    }
}
