/** What stands under "Hearings" and "Juries". */
public final class TermsHearingsTest {
    private TermsHearingsTest() {
    }

    public static void main(String[] args) {
        Sentences.run(TermsHearingsTest.class);
    }

    @Says(at = "Hearings",
        value = "Hearings are numbered from 0, at most 40; one is of a case, on a day that is not free, in a slot, 0 "
            + "to 3.")
    static void hearingsAreAtMost40(Check check) {
        Courtdocket court = Scene.cases(1);
        check.index("no hearing 0", court, () -> court.hearingAt(0));
        int number = 0;
        for (int day = 1; number < 40; day++) {
            for (int slot = 0; slot < 4 && day % 7 < 5; slot++) {
                check.same("hearing " + number, court.hearing(0, day, slot), number);
                number++;
            }
        }
        check.state("a 41st", court, () -> court.hearing(0, 990, 0));
        check.same("the last one", court.hearingAt(39), 143);
        check.index("hearing 40", court, () -> court.hearingAt(40));
        check.same("one that is continued is none more", court.continueHearing(39), 150);
        check.state("a 41st still", court, () -> court.hearing(0, 990, 0));
    }

    @Says(at = "Hearings",
        value = "Hearings are numbered from 0, at most 40; one is of a case, on a day that is not free, in a slot, 0 "
            + "to 3.")
    static void hearingsAreNotOnFreeDays(Check check) {
        Courtdocket court = Scene.cases(1);
        court.holiday(3);
        for (int day = 1; day <= 14; day++) {
            int on = day;
            if (day == 3 || day % 7 >= 5) {
                check.state("on " + day, court, () -> court.hearing(0, on, 0));
            } else {
                int number = court.hearing(0, day, 0);
                check.same("on " + day, court.hearingAt(number), 10 * day);
            }
        }
    }

    @Says(at = "Hearings",
        value = "Hearings are numbered from 0, at most 40; one is of a case, on a day that is not free, in a slot, 0 "
            + "to 3.")
    static void hearingsAreInSlots0To3(Check check) {
        Courtdocket court = Scene.cases(1);
        check.index("slot", court, 0, 3, slot -> court.hearing(0, 1, slot));
        for (int slot = 0; slot < 4; slot++) {
            check.same("slot " + slot, court.hearingAt(court.hearing(0, 1, slot)), 10 + slot);
        }
    }

    @Says(at = "Hearings", value = "Two hearings meet if they are on the same day in the same slot")
    static void hearingsMeetInTheSameSlotOfTheSameDay(Check check) {
        Courtdocket court = Scene.cases(1);
        court.hearing(0, 2, 1);
        check.state("the same day and slot", court, () -> court.hearing(0, 2, 1));
        check.same("the day ahead", court.hearing(0, 1, 1), 1);
        check.same("the day behind", court.hearing(0, 3, 1), 2);
        check.same("the slot ahead", court.hearing(0, 2, 0), 3);
        check.same("the slot behind", court.hearing(0, 2, 2), 4);
    }

    @Says(at = "Hearings",
        value = "and the judges of their cases (of those which lead them, if they are led) are the same")
    static void hearingsMeetByTheJudge(Check check) {
        Courtdocket court = Scene.cases(6);
        court.hearing(0, 1, 0);
        check.state("the same judge", court, () -> court.hearing(3, 1, 0));
        check.same("another judge", court.hearing(1, 1, 0), 1);
        check.same("and the third", court.hearing(5, 1, 0), 2);
    }

    @Says(at = "Hearings",
        value = "and the judges of their cases (of those which lead them, if they are led) are the same")
    static void hearingsMeetByTheJudgeOfTheLeader(Check check) {
        Courtdocket court = Scene.cases(6);
        court.hearing(0, 1, 0);
        court.lead(3, 1);
        check.same("led by a case of another judge", court.hearing(3, 1, 0), 1);
        court.lead(4, 0);
        check.state("led by a case of the same judge", court, () -> court.hearing(4, 1, 0));
        check.state("the judge of one that is led already sits", court, () -> court.hearing(1, 1, 0));
        court.lead(3, -1);
        check.same("the leader of now: none", court.hearing(1, 1, 0), 2);
        court.lead(5, 1);
        check.state("of one that leads: its own judge", court, () -> court.hearing(5, 1, 0));
        court.lead(4, -1);
        court.lead(0, 2);
        check.same("the other one is led now", court.hearing(3, 2, 0), 3);
        court.hearing(0, 2, 0);
        check.state("by the judge 2", court, () -> court.hearing(2, 2, 0));
    }

    @Says(at = "Hearings", value = "or some person is a party in both cases")
    static void hearingsMeetByAPerson(Check check) {
        for (int person : new int[] {0, 7, 15}) {
            Courtdocket court = Scene.cases(3);
            court.join(0, person, 0);
            court.join(0, 3, 0);
            court.join(1, 4, 1);
            court.hearing(0, 1, 0);
            court.join(1, person, 1);
            check.state("the person " + person + ", on another side", court, () -> court.hearing(1, 1, 0));
            check.same("in another slot", court.hearing(1, 1, 1), 1);
            court.join(2, 5, 0);
            check.same("none in common", court.hearing(2, 1, 0), 2);
        }
        Courtdocket leader = Scene.cases(6);
        leader.join(0, 3, 0);
        leader.join(1, 3, 0);
        leader.lead(2, 1);
        leader.hearing(0, 1, 0);
        check.same("parties of the leader do not count", leader.hearing(2, 1, 0), 1);
    }

    @Says(at = "Hearings", value = "or some person is a party in both cases")
    static void hearingsMeetByAPersonOfNow(Check check) {
        Courtdocket court = Scene.claimed();
        court.open(1);
        court.hearing(0, 1, 0);
        court.join(1, 2, 0);
        check.state("joined later", court, () -> court.hearing(1, 1, 0));
        court.open(2);
        court.hearing(2, 1, 0);
        court.join(2, 0, 0);
        check.same("two that meet by now stay", court.hearingAt(1), 10);
        check.same("severed", court.sever(0), 3);
        court.lead(3, 1);
        check.state("with the parties of its claim", court, () -> court.hearing(3, 1, 0));
    }

    @Says(at = "Hearings",
        value = "To continue a hearing is to bring it to the first day behind its own, and there to the first slot, "
            + "in which it meets no other one.")
    static void continueToTheFirstDayBehind(Check check) {
        Courtdocket court = Scene.cases(1);
        court.hearing(0, 2, 3);
        check.same("the day behind, the slot 0", court.continueHearing(0), 30);
        check.same("again", court.continueHearing(0), 40);
        check.same("over the free days", court.continueHearing(0), 70);
        court.holiday(8);
        check.same("over a holiday", court.continueHearing(0), 90);
        check.same("it is there", court.hearingAt(0), 90);
        check.same("its old day is open", court.hearing(0, 2, 3), 1);
    }

    @Says(at = "Hearings",
        value = "To continue a hearing is to bring it to the first day behind its own, and there to the first slot, "
            + "in which it meets no other one.")
    static void continueToTheFirstSlot(Check check) {
        Courtdocket court = Scene.cases(1);
        court.hearing(0, 1, 0);
        court.hearing(0, 2, 0);
        court.hearing(0, 2, 1);
        check.same("the first open slot", court.continueHearing(0), 22);
        court.hearing(0, 1, 0);
        check.same("the last open slot", court.continueHearing(3), 23);
        court.hearing(0, 1, 1);
        check.same("none is open on the first day", court.continueHearing(4), 30);
        check.same("from the last slot of its day", court.continueHearing(3), 31);
        Courtdocket other = Scene.cases(2);
        other.hearing(0, 1, 2);
        other.hearing(1, 2, 0);
        check.same("another judge sits there", other.continueHearing(0), 20);
    }

    // ---- Juries

    /** The sides have struck these jurors of the case 0. */
    private static Courtdocket struck(int... jurors) {
        Courtdocket court = Scene.cases(2);
        for (int i = 0; i < jurors.length; i++) {
            court.strike(0, i % 2, jurors[i]);
        }
        return court;
    }

    private static void seats(Check check, String what, Courtdocket court, int... due) {
        for (int seat = 0; seat < due.length; seat++) {
            check.same(what + ": seat " + seat, court.seat(0, seat), due[seat]);
        }
    }

    @Says(at = "Juries", value = "The pool of a case has the jurors 0 to 13.")
    static void thePoolHas14Jurors(Check check) {
        Courtdocket court = Scene.cases(2);
        check.index("juror", court, 0, 13, juror -> court.strike(0, 0, juror));
        check.same("juror 0", court.strike(0, 0, 0), 1);
        check.same("juror 13", court.strike(0, 1, 13), 2);
        check.same("another case has its own", court.strike(1, 0, 13), 1);
    }

    @Says(at = "Juries", value = "The sides strike in turns, the side 0 first, at most three each.")
    static void theSidesStrikeInTurns(Check check) {
        Courtdocket court = Scene.cases(2);
        for (int strike = 0; strike < 6; strike++) {
            int side = strike % 2;
            int juror = strike;
            check.state("not the turn of " + (1 - side), court, () -> court.strike(0, 1 - side, juror));
            check.same("the turn of " + side, court.strike(0, side, juror), strike + 1);
        }
        check.state("a fourth of the side 0", court, () -> court.strike(0, 0, 9));
        check.state("a fourth of the side 1", court, () -> court.strike(0, 1, 9));
        check.state("the side 0 is first in each case", court, () -> court.strike(1, 1, 9));
    }

    @Says(at = "Juries",
        value = "When all six are done, the first six of those that are left are seated, in order of their numbers, "
            + "and the next two are alternates.")
    static void theFirstSixAreSeated(Check check) {
        seats(check, "five are done", struck(0, 1, 2, 3, 4), -1, -1, -1, -1, -1, -1, -1);
        seats(check, "none is done", struck(), -1, -1, -1, -1, -1, -1, -1);
        seats(check, "the first six struck", struck(0, 1, 2, 3, 4, 5), 6, 7, 8, 9, 10, 11, 12);
        seats(check, "the last six struck", struck(13, 12, 11, 10, 9, 8), 0, 1, 2, 3, 4, 5, 6);
        seats(check, "some struck, in no order", struck(12, 0, 7, 3, 5, 9), 1, 2, 4, 6, 8, 10, 11);
        check.same("no jury of another case", struck(0, 1, 2, 3, 4, 5).seat(1, 0), -1);
    }

    @Says(at = "Juries",
        value = "When all six are done, the first six of those that are left are seated, in order of their numbers, "
            + "and the next two are alternates.")
    static void theNextTwoAreAlternates(Check check) {
        Courtdocket court = struck(12, 0, 7, 3, 5, 9);
        check.same("the first alternate", court.dismiss(0, 1), 11);
        check.same("the second one", court.seat(0, 6), 13);
        check.same("comes next", court.dismiss(0, 2), 13);
        check.same("there is no third", court.seat(0, 6), -1);
        check.state("so none can go", court, () -> court.dismiss(0, 4));
        Courtdocket low = struck(13, 12, 11, 10, 9, 8);
        low.dismiss(0, 0);
        check.same("7 is the last, of those behind the seats", low.dismiss(0, 1), 7);
        check.same("none is left", low.seat(0, 6), -1);
    }

    @Says(at = "Juries",
        value = "To dismiss one that is seated is to seat the first alternate that is left, in that seat.")
    static void theAlternateTakesThatSeat(Check check) {
        Courtdocket court = struck(0, 1, 2, 3, 4, 5);
        check.same("of the last seat", court.dismiss(0, 11), 12);
        seats(check, "the last seat", court, 6, 7, 8, 9, 10, 12, 13);
        check.state("11 is gone", court, () -> court.dismiss(0, 11));
        check.state("13 is an alternate", court, () -> court.dismiss(0, 13));
        check.same("of the first seat", court.dismiss(0, 6), 13);
        seats(check, "the first seat", court, 13, 7, 8, 9, 10, 12, -1);
        check.state("none is left", court, () -> court.dismiss(0, 13));
        Courtdocket twice = struck(0, 1, 2, 3, 4, 5);
        twice.dismiss(0, 8);
        check.same("one that was an alternate", twice.dismiss(0, 12), 13);
        seats(check, "the third seat", twice, 6, 7, 13, 9, 10, 11, -1);
    }
}
