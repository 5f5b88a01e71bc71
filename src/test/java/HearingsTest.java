/** Promises 25, 26 and 52: hearing, continueHearing, hearingAt. */
public final class HearingsTest {
    private static final Check CHECK = new Check("HearingsTest");

    private HearingsTest() {
    }

    public static void main(String[] args) {
        hearing();
        meetByJudge();
        meetByPerson();
        continueHearing();
        continueLate();
        continueToTheEnd();
        most();
        CHECK.end();
    }

    /** Cases of the judges 0, 1 and 2, each with a party of its own. */
    private static Courtdocket three() {
        Courtdocket court = new Courtdocket();
        for (int number = 0; number < 3; number++) {
            court.open(number);
            court.join(number, number, 0);
        }
        return court;
    }

    private static void hearing() {
        Courtdocket court = three();
        court.pass(1);
        CHECK.index("case 3", court, () -> court.hearing(3, 2, 0));
        CHECK.index("case -1", court, () -> court.hearing(-1, 2, 0));
        CHECK.index("slot -1", court, () -> court.hearing(0, 2, -1));
        CHECK.index("slot 4", court, () -> court.hearing(0, 1, 4));
        CHECK.argument("today", court, () -> court.hearing(0, 1, 0));
        CHECK.argument("-1", court, () -> court.hearing(0, -1, 0));
        CHECK.argument("991", court, () -> court.hearing(0, 991, 0));
        CHECK.argument("MAX", court, () -> court.hearing(0, Integer.MAX_VALUE, 0));
        CHECK.state("free", court, () -> court.hearing(0, 5, 0));
        court.holiday(7);
        CHECK.state("a holiday", court, () -> court.hearing(0, 7, 0));
        CHECK.same("the first", court.hearing(0, 2, 3), 0);
        CHECK.same("the second", court.hearing(0, 990, 0), 1);
        CHECK.same("at", court.hearingAt(0), 23);
        CHECK.same("at", court.hearingAt(1), 9900);
        CHECK.index("hearingAt 2", court, () -> court.hearingAt(2));
        CHECK.index("hearingAt -1", court, () -> court.hearingAt(-1));
        CHECK.state("meets itself", court, () -> court.hearing(0, 2, 3));
        CHECK.argument("day ahead of the state", court, () -> court.hearing(0, 1, 3));
    }

    private static void meetByJudge() {
        Courtdocket court = three();
        court.open(0);
        court.hearing(0, 1, 0);
        CHECK.state("one judge", court, () -> court.hearing(3, 1, 0));
        CHECK.same("another slot", court.hearing(3, 1, 1), 1);
        CHECK.same("another day", court.hearing(3, 2, 0), 2);
        CHECK.same("another judge", court.hearing(1, 1, 0), 3);
        court.lead(3, 1);
        CHECK.state("the judge of its leader", court, () -> court.hearing(3, 1, 0));
        court.lead(3, 2);
        CHECK.same("led by one of the judge 2", court.hearing(3, 1, 0), 4);
        CHECK.state("the judge 2 is there now", court, () -> court.hearing(2, 1, 0));
        court.lead(3, -1);
        CHECK.same("as both are now", court.hearing(2, 1, 0), 5);
    }

    private static void meetByPerson() {
        Courtdocket court = three();
        court.join(1, 7, 0);
        court.hearing(0, 1, 0);
        court.hearing(1, 1, 0);
        court.join(2, 7, 1);
        CHECK.state("7 is a party of 1 and 2", court, () -> court.hearing(2, 1, 0));
        CHECK.same("in another slot", court.hearing(2, 1, 1), 2);
        court.join(0, 7, 1);
        CHECK.state("now of 0, too", court, () -> court.hearing(0, 1, 1));
        court.open(1);
        court.lead(3, 2);
        CHECK.same("parties of the leader do not matter", court.hearing(3, 2, 0), 3);
        CHECK.same("nor its hearing", court.hearing(1, 2, 0), 4);
    }

    private static void continueHearing() {
        Courtdocket court = three();
        court.open(0);
        CHECK.index("hearing 0", court, () -> court.continueHearing(0));
        CHECK.index("hearing -1", court, () -> court.continueHearing(-1));
        court.hearing(0, 3, 2);
        CHECK.same("the next day, the first slot", court.continueHearing(0), 40);
        CHECK.same("there it is", court.hearingAt(0), 40);
        court.holiday(7);
        CHECK.same("over free days", court.continueHearing(0), 80);
        court.hearing(3, 9, 0);
        court.hearing(1, 9, 1);
        CHECK.same("to the first slot in which it meets none", court.continueHearing(0), 91);
        for (int slot = 0; slot < 4; slot++) {
            court.hearing(3, 10, slot);
        }
        CHECK.same("over a full day", court.continueHearing(0), 110);
        CHECK.same("its old place is left", court.hearing(3, 9, 1), 7);
        CHECK.state("its new one is taken", court, () -> court.hearing(3, 11, 0));
    }

    private static void continueLate() {
        Courtdocket court = three();
        court.hearing(0, 3, 2);
        court.pass(2);
        CHECK.same("behind today", court.continueHearing(0), 40);
        court.pass(2);
        CHECK.state("today", court, () -> court.continueHearing(0));
        court.pass(1);
        CHECK.state("ahead of today", court, () -> court.continueHearing(0));
        CHECK.same("there it stays", court.hearingAt(0), 40);
    }

    private static void continueToTheEnd() {
        Courtdocket court = three();
        court.hearing(0, 990, 0);
        int[] days = {991, 994, 995, 996, 997, 998};
        for (int day : days) {
            CHECK.same("to " + day, court.continueHearing(0), 10 * day);
        }
        CHECK.state("999 and 1000 are free", court, () -> court.continueHearing(0));
        CHECK.same("there it stays", court.hearingAt(0), 9980);
    }

    private static void most() {
        Courtdocket court = three();
        int made = 0;
        for (int day = 1; made < 40; day++) {
            if (day % 7 < 5) {
                CHECK.same("hearing", court.hearing(0, day, 1), made);
                made++;
            }
        }
        CHECK.state("a 41st", court, () -> court.hearing(1, 1, 1));
        CHECK.same("the last can be continued", court.continueHearing(39) > court.hearingAt(38), true);
    }
}
