/** Promises 25 to 34: hearing, continueHearing, strike, dismiss, seat, exhibit, hand, object, sustain, isAdmitted. */
public final class Promises25Test {
    private Promises25Test() {
    }

    public static void main(String[] args) {
        Sentences.run(Promises25Test.class);
    }

    // ---- hearing

    @Says(at = "Promise 25", value = "`day`: a day behind today, at most 990")
    static void p25DayBehindToday(Check check) {
        Courtdocket court = Scene.cases(1);
        court.pass(3);
        check.same("the day behind today", court.hearing(0, 4, 0), 0);
        check.same("988", court.hearing(0, 988, 0), 1);
        check.same("989", court.hearing(0, 989, 0), 2);
        check.same("990", court.hearing(0, 990, 0), 3);
        Courtdocket last = Scene.cases(1);
        Scene.pass(last, 900);
        check.same("990 on the last day", last.hearing(0, 990, 3), 0);
        check.same("903 on the last day", last.hearing(0, 903, 3), 1);
    }

    @Says(at = "Promise 25", value = "`slot`: 0 to 3")
    static void p25Slot0To3(Check check) {
        Courtdocket court = Scene.cases(1);
        for (int slot = 0; slot < 4; slot++) {
            check.same("slot " + slot, court.hearing(0, 1, slot), slot);
            check.same("when it is", court.hearingAt(slot), 10 + slot);
        }
    }

    @Says(at = "Promise 25", value = "Returns the number of the hearing.")
    static void p25ReturnsTheNumber(Check check) {
        Courtdocket court = Scene.cases(2);
        check.same("the first", court.hearing(1, 2, 0), 0);
        check.same("the second", court.hearing(0, 1, 0), 1);
        check.same("when the first is", court.hearingAt(0), 20);
        check.same("when the second is", court.hearingAt(1), 10);
    }

    @Says(at = "Promise 25", value = "Throws `IndexOutOfBoundsException` if there is no such case or slot")
    static void p25NoSuchCaseOrSlot(Check check) {
        Courtdocket court = Scene.cases(2);
        Limits.noSuch(check, "case", court, 2, (on, number) -> on.hearing(number, 1, 0));
        check.index("slot", court, 0, 3, slot -> court.hearing(1, 1, slot));
        check.same("none was set", court.hearing(1, 1, 3), 0);
    }

    @Says(at = "Promise 25", value = "Throws `IllegalArgumentException` if day is out of range")
    static void p25DayOutOfRange(Check check) {
        Courtdocket court = Scene.cases(1);
        check.argument("day", court, 1, 990, day -> court.hearing(0, day, 0));
        court.pass(10);
        check.argument("day", court, 11, 990, day -> court.hearing(0, day, 0));
        check.argument("994, which is not free", court, () -> court.hearing(0, 994, 0));
        check.argument("the first day", court, () -> court.hearing(0, 0, 0));
    }

    @Says(at = "Promise 25",
        value = "Throws `IllegalStateException` if the day is free, it would meet another one, or there are 40")
    static void p25NoHearingThen(Check check) {
        Courtdocket court = Scene.cases(2);
        court.holiday(3);
        for (int day : new int[] {3, 5, 6, 985, 986}) {
            check.state("free: " + day, court, () -> court.hearing(0, day, 0));
        }
        court.hearing(0, 4, 0);
        check.state("it would meet another one", court, () -> court.hearing(0, 4, 0));
        check.same("one of another judge", court.hearing(1, 4, 0), 1);
    }

    @Says(at = "Promise 25",
        value = "Throws `IllegalStateException` if the day is free, it would meet another one, or there are 40")
    static void p25ThereAre40(Check check) {
        Courtdocket court = Scene.cases(1);
        for (int number = 0; number < 39; number++) {
            court.hearing(0, 7 * (number / 4 + 1), number % 4);
        }
        check.same("the 40th", court.hearing(0, 70, 3), 39);
        check.state("a 41st", court, () -> court.hearing(0, 1, 0));
        court.pass(60);
        check.state("those that are over count", court, () -> court.hearing(0, 77, 0));
    }

    // ---- continueHearing

    @Says(at = "Promise 26", value = "Returns 10 times its day, and its slot, together.")
    static void p26ReturnsDayAndSlot(Check check) {
        Courtdocket court = Scene.cases(1);
        court.hearing(0, 1, 3);
        court.hearing(0, 2, 0);
        check.same("the day 2, the slot 1", court.continueHearing(0), 21);
        check.same("when it is", court.hearingAt(0), 21);
        court.hearing(0, 990, 2);
        check.same("the day 994, the slot 0", court.continueHearing(2), 9940 - 30);
    }

    @Says(at = "Promise 26", value = "Throws `IndexOutOfBoundsException` if there is no such hearing")
    static void p26NoSuchHearing(Check check) {
        Courtdocket court = Scene.cases(1);
        court.hearing(0, 1, 0);
        court.hearing(0, 1, 1);
        Limits.noSuch(check, "hearing", court, 2, (on, hearing) -> on.continueHearing(hearing));
        check.same("the last one", court.continueHearing(1), 20);
    }

    @Says(at = "Promise 26",
        value = "Throws `IllegalStateException` if its day is not behind today, or there is no such day up to 1000")
    static void p26ItsDayIsNotBehindToday(Check check) {
        Courtdocket court = Scene.cases(1);
        court.hearing(0, 2, 0);
        court.hearing(0, 3, 0);
        court.hearing(0, 4, 0);
        court.pass(3);
        check.state("its day is over", court, () -> court.continueHearing(0));
        check.state("its day is today", court, () -> court.continueHearing(1));
        check.same("its day is the one behind today", court.continueHearing(2), 70);
        check.same("they are when they were", court.hearingAt(1), 30);
    }

    @Says(at = "Promise 26",
        value = "Throws `IllegalStateException` if its day is not behind today, or there is no such day up to 1000")
    static void p26NoSuchDayUpTo1000(Check check) {
        Courtdocket court = Scene.cases(1);
        court.hearing(0, 990, 0);
        int[] due = {9910, 9940, 9950, 9960, 9970, 9980};
        for (int time : due) {
            check.same("on", court.continueHearing(0), time);
        }
        check.state("999 and 1000 are free", court, () -> court.continueHearing(0));
        check.same("it is when it was", court.hearingAt(0), 9980);
        Courtdocket holidays = Scene.cases(1);
        for (int day : new int[] {991, 994, 995, 996, 997}) {
            holidays.holiday(day);
        }
        holidays.hearing(0, 990, 1);
        check.same("998 alone is not free", holidays.continueHearing(0), 9980);
        Courtdocket none = Scene.cases(1);
        for (int day : new int[] {991, 994, 995, 996, 997, 998}) {
            none.holiday(day);
        }
        none.hearing(0, 990, 1);
        check.state("no day is not free", none, () -> none.continueHearing(0));
    }

    @Says(at = "Promise 26",
        value = "Throws `IllegalStateException` if its day is not behind today, or there is no such day up to 1000")
    static void p26AllSlotsUpTo1000AreTaken(Check check) {
        Courtdocket court = Scene.cases(1);
        for (int slot = 0; slot < 4; slot++) {
            court.hearing(0, 990, slot);
            for (int times = 0; times < 6; times++) {
                court.continueHearing(slot);
            }
        }
        check.same("the last slot of 998", court.hearingAt(3), 9983);
        court.hearing(0, 990, 0);
        for (int times = 0; times < 5; times++) {
            court.continueHearing(4);
        }
        check.same("on 997", court.hearingAt(4), 9970);
        check.state("998 is full", court, () -> court.continueHearing(4));
        check.same("it is when it was", court.hearingAt(4), 9970);
    }

    // ---- strike

    /** The case 0, in which the jurors 0 to 5 are struck, of two cases. */
    private static Courtdocket struck() {
        Courtdocket court = Scene.cases(2);
        for (int juror = 0; juror < 6; juror++) {
            court.strike(0, juror % 2, juror);
        }
        return court;
    }

    @Says(at = "Promise 27", value = "`side`: 0 or 1")
    static void p27Side0Or1(Check check) {
        Courtdocket court = Scene.cases(1);
        check.state("1 is not first", court, () -> court.strike(0, 1, 0));
        check.same("0", court.strike(0, 0, 0), 1);
        check.same("1", court.strike(0, 1, 1), 2);
    }

    @Says(at = "Promise 27", value = "`juror`: 0 to 13")
    static void p27Juror0To13(Check check) {
        Courtdocket court = Scene.cases(1);
        check.same("13", court.strike(0, 0, 13), 1);
        check.same("0", court.strike(0, 1, 0), 2);
        check.same("12", court.strike(0, 0, 12), 3);
        check.same("1", court.strike(0, 1, 1), 4);
    }

    @Says(at = "Promise 27", value = "Returns how many strikes there were then.")
    static void p27ReturnsHowMany(Check check) {
        Courtdocket court = Scene.cases(2);
        for (int strike = 1; strike <= 6; strike++) {
            check.same("of both sides", court.strike(1, (strike + 1) % 2, 14 - strike), strike);
        }
        check.same("of another case", court.strike(0, 0, 0), 1);
    }

    @Says(at = "Promise 27", value = "Throws `IndexOutOfBoundsException` if there is no such case, side or juror")
    static void p27NoSuchCaseSideOrJuror(Check check) {
        Courtdocket court = Scene.cases(2);
        Limits.noSuch(check, "case", court, 2, (on, number) -> on.strike(number, 0, 0));
        check.index("side", court, 0, 1, side -> court.strike(1, side, 0));
        check.index("juror", court, 0, 13, juror -> court.strike(1, 0, juror));
        check.same("none was struck", court.strike(1, 0, 0), 1);
    }

    @Says(at = "Promise 27",
        value = "Throws `IllegalStateException` if it is not the turn of the side, all are done, or the juror was "
            + "struck")
    static void p27NotStruck(Check check) {
        Courtdocket court = Scene.cases(1);
        check.state("not the turn of 1", court, () -> court.strike(0, 1, 0));
        court.strike(0, 0, 0);
        check.state("not the turn of 0", court, () -> court.strike(0, 0, 1));
        check.state("struck by the other side", court, () -> court.strike(0, 1, 0));
        court.strike(0, 1, 13);
        check.state("struck by the other side, the last one", court, () -> court.strike(0, 0, 13));
        check.state("struck by itself", court, () -> court.strike(0, 0, 0));
        court.strike(0, 0, 1);
        court.strike(0, 1, 2);
        court.strike(0, 0, 3);
        check.same("the sixth", court.strike(0, 1, 4), 6);
        check.state("all are done: 0", court, () -> court.strike(0, 0, 5));
        check.state("all are done: 1", court, () -> court.strike(0, 1, 5));
    }

    // ---- dismiss

    @Says(at = "Promise 28", value = "`juror`: 0 to 13")
    static void p28Juror0To13(Check check) {
        Courtdocket low = Scene.cases(1);
        for (int i = 0; i < 6; i++) {
            low.strike(0, i % 2, 13 - i);
        }
        check.same("0", low.dismiss(0, 0), 6);
        Courtdocket high = Scene.cases(1);
        for (int i = 0; i < 6; i++) {
            high.strike(0, i % 2, i);
        }
        high.dismiss(0, 6);
        high.dismiss(0, 7);
        check.same("13, in the seat of 7", high.seat(0, 1), 13);
        check.state("13 is seated, but no alternate is left", high, () -> high.dismiss(0, 13));
    }

    @Says(at = "Promise 28", value = "Returns who is seated instead.")
    static void p28ReturnsWhoIsSeated(Check check) {
        Courtdocket court = struck();
        check.same("the first alternate", court.dismiss(0, 9), 12);
        check.same("in that seat", court.seat(0, 3), 12);
        check.same("the second alternate", court.dismiss(0, 6), 13);
        check.same("in that seat", court.seat(0, 0), 13);
    }

    @Says(at = "Promise 28", value = "Throws `IndexOutOfBoundsException` if there is no such case or juror")
    static void p28NoSuchCaseOrJuror(Check check) {
        Courtdocket court = struck();
        Limits.noSuch(check, "case", court, 2, (on, number) -> on.dismiss(number, 6));
        check.index("juror", court, 0, 13, juror -> court.dismiss(0, juror));
        check.same("the first alternate is left", court.seat(0, 6), 12);
    }

    @Says(at = "Promise 28",
        value = "Throws `IllegalStateException` if the juror is not seated, or no alternate is left")
    static void p28NotSeated(Check check) {
        Courtdocket court = struck();
        for (int juror : new int[] {0, 5, 12, 13}) {
            check.state("struck, or an alternate: " + juror, court, () -> court.dismiss(0, juror));
        }
        for (int juror : new int[] {0, 6, 13}) {
            check.state("of a case without a jury: " + juror, court, () -> court.dismiss(1, juror));
        }
        court.dismiss(0, 6);
        check.state("dismissed", court, () -> court.dismiss(0, 6));
        court.dismiss(0, 11);
        for (int juror : new int[] {7, 10, 12, 13}) {
            check.state("no alternate is left: " + juror, court, () -> court.dismiss(0, juror));
        }
        Courtdocket five = Scene.cases(1);
        for (int juror = 0; juror < 5; juror++) {
            five.strike(0, juror % 2, juror);
        }
        check.state("five strikes are done", five, () -> five.dismiss(0, 6));
    }

    // ---- seat

    @Says(at = "Promise 29", value = "`seat`: 0 to 5; 6 for the first alternate that is left")
    static void p29Seat0To6(Check check) {
        Courtdocket court = struck();
        for (int seat = 0; seat < 7; seat++) {
            check.same("seat " + seat, court.seat(0, seat), seat + 6);
        }
        court.dismiss(0, 6);
        check.same("the alternate that is left", court.seat(0, 6), 13);
        check.same("the first seat", court.seat(0, 0), 12);
        check.same("the last seat", court.seat(0, 5), 11);
    }

    @Says(at = "Promise 29", value = "Returns the juror; NONE if there is none.")
    static void p29NoneIfThereIsNone(Check check) {
        Courtdocket court = struck();
        for (int seat = 0; seat < 7; seat++) {
            check.same("of a case without strikes", court.seat(1, seat), -1);
        }
        court.dismiss(0, 6);
        court.dismiss(0, 7);
        check.same("no alternate", court.seat(0, 6), -1);
        check.same("the seats are taken", court.seat(0, 1), 13);
        Courtdocket five = Scene.cases(1);
        for (int juror = 0; juror < 5; juror++) {
            five.strike(0, juror % 2, juror);
        }
        for (int seat = 0; seat < 7; seat++) {
            check.same("five strikes are done", five.seat(0, seat), -1);
        }
        five.strike(0, 1, 5);
        check.same("all six are", five.seat(0, 0), 6);
    }

    @Says(at = "Promise 29", value = "Throws `IndexOutOfBoundsException` if there is no such case or seat")
    static void p29NoSuchCaseOrSeat(Check check) {
        Courtdocket court = struck();
        Limits.noSuch(check, "case", court, 2, (on, number) -> on.seat(number, 0));
        check.index("seat", court, 0, 6, seat -> court.seat(0, seat));
        check.index("seat of a case without a jury", court, 0, 6, seat -> court.seat(1, seat));
    }

    // ---- exhibit

    @Says(at = "Promise 30", value = "`person`: 0 to 15, in whose hand it is")
    static void p30Person0To15(Check check) {
        Courtdocket court = Scene.cases(1);
        court.exhibit(0, 0);
        court.exhibit(0, 15);
        check.same("from 0", court.hand(0, 0, 15), true);
        check.same("from 15", court.hand(1, 15, 0), true);
        court.exhibit(0, 15);
        check.same("not from 0", court.hand(2, 0, 15), false);
    }

    @Says(at = "Promise 30", value = "Returns the number of the exhibit.")
    static void p30ReturnsTheNumber(Check check) {
        Courtdocket court = Scene.cases(2);
        check.same("the first", court.exhibit(1, 3), 0);
        check.same("the second", court.exhibit(0, 3), 1);
        check.same("whole", court.isAdmitted(1), true);
    }

    @Says(at = "Promise 30", value = "Throws `IndexOutOfBoundsException` if there is no such case or person")
    static void p30NoSuchCaseOrPerson(Check check) {
        Courtdocket court = Scene.cases(2);
        Limits.noSuch(check, "case", court, 2, (on, number) -> on.exhibit(number, 0));
        check.index("person", court, 0, 15, person -> court.exhibit(1, person));
        check.same("none was taken in", court.exhibit(1, 15), 0);
    }

    @Says(at = "Promise 30", value = "Throws `IllegalStateException` if there are 12")
    static void p30ThereAre12(Check check) {
        Courtdocket court = Scene.cases(2);
        for (int exhibit = 0; exhibit < 11; exhibit++) {
            court.exhibit(0, 0);
        }
        check.same("the 12th", court.exhibit(1, 0), 11);
        check.state("a 13th", court, () -> court.exhibit(0, 0));
        check.state("a 13th of another case", court, () -> court.exhibit(1, 0));
    }

    // ---- hand

    @Says(at = "Promise 31", value = "`from`: 0 to 15")
    static void p31From0To15(Check check) {
        Courtdocket court = Scene.cases(1);
        court.exhibit(0, 0);
        check.same("0", court.hand(0, 0, 15), true);
        check.same("15", court.hand(0, 15, 14), true);
        check.same("14", court.hand(0, 14, 1), true);
        check.same("1", court.hand(0, 1, 0), true);
    }

    @Says(at = "Promise 31", value = "`to`: 0 to 15")
    static void p31To0To15(Check check) {
        Courtdocket court = Scene.cases(1);
        court.exhibit(0, 7);
        for (int to : new int[] {0, 7, 15, 7}) {
            check.same("7 to " + to, court.hand(0, 7, to), true);
            check.same(to + " to 7", court.hand(0, to, 7), true);
        }
        check.same("to oneself", court.hand(0, 7, 7), true);
        check.same("and on", court.hand(0, 7, 8), true);
        check.same("to oneself from another hand", court.hand(0, 7, 7), false);
    }

    @Says(at = "Promise 31", value = "Returns whether its chain is not broken.")
    static void p31ReturnsWhetherNotBroken(Check check) {
        Courtdocket court = Scene.cases(1);
        court.exhibit(0, 1);
        check.same("whole", court.hand(0, 1, 2), true);
        check.same("broken", court.hand(0, 1, 3), false);
        check.same("for ever", court.hand(0, 3, 1), false);
        check.same("told to be admitted or not", court.isAdmitted(0), false);
    }

    @Says(at = "Promise 31", value = "Throws `IndexOutOfBoundsException` if there is no such exhibit or person")
    static void p31NoSuchExhibitOrPerson(Check check) {
        Courtdocket court = Scene.cases(1);
        court.exhibit(0, 1);
        court.exhibit(0, 1);
        Limits.noSuch(check, "exhibit", court, 2, (on, exhibit) -> on.hand(exhibit, 1, 2));
        check.index("from", court, 0, 15, person -> court.hand(1, person, 2));
        check.index("to", court, 0, 15, person -> court.hand(1, 1, person));
        check.same("in the hand of 1 still", court.hand(1, 1, 2), true);
    }

    // ---- object, sustain, isAdmitted

    @Says(at = "Promise 32", value = "`side`: 0 or 1")
    static void p32Side0Or1(Check check) {
        for (int side = 0; side < 2; side++) {
            Courtdocket court = Scene.opened();
            court.exhibit(0, 1);
            court.object(0, side);
            check.same("the side " + side, court.isAdmitted(0), false);
            court.sustain(0, side, false);
            check.same("it was that side alone", court.isAdmitted(0), true);
        }
    }

    @Says(at = "Promise 32", value = "Throws `IndexOutOfBoundsException` if there is no such exhibit or side")
    static void p32NoSuchExhibitOrSide(Check check) {
        Courtdocket court = Scene.opened();
        court.exhibit(0, 1);
        court.exhibit(0, 1);
        Limits.noSuch(check, "exhibit", court, 2, (on, exhibit) -> on.object(exhibit, 0));
        check.index("side", court, 0, 1, side -> court.object(1, side));
        check.same("admitted", court.isAdmitted(1), true);
        court.object(1, 1);
        check.same("the last one is not, then", court.isAdmitted(1), false);
    }

    @Says(at = "Promise 32", value = "Throws `IllegalStateException` if the side has objected")
    static void p32TheSideHasObjected(Check check) {
        Courtdocket court = Scene.opened();
        court.exhibit(0, 1);
        court.exhibit(0, 1);
        court.object(0, 0);
        check.state("0 has", court, () -> court.object(0, 0));
        court.object(0, 1);
        check.state("1 has", court, () -> court.object(0, 1));
        court.sustain(0, 0, false);
        check.state("0 has, not sustained", court, () -> court.object(0, 0));
        court.sustain(0, 1, true);
        check.state("1 has, sustained", court, () -> court.object(0, 1));
        court.object(1, 0);
        check.same("to another exhibit", court.isAdmitted(1), false);
    }

    @Says(at = "Promise 33", value = "`side`: 0 or 1")
    static void p33Side0Or1(Check check) {
        Courtdocket court = Scene.opened();
        court.exhibit(0, 1);
        court.object(0, 0);
        court.object(0, 1);
        court.sustain(0, 1, false);
        check.same("that of the side 0 is left", court.isAdmitted(0), false);
        check.state("that of the side 1 was decided", court, () -> court.sustain(0, 1, true));
        court.sustain(0, 0, false);
        check.same("none is left", court.isAdmitted(0), true);
    }

    @Says(at = "Promise 33", value = "`isSustained`: whether it is")
    static void p33IsSustained(Check check) {
        for (int side = 0; side < 2; side++) {
            Courtdocket court = Scene.opened();
            court.exhibit(0, 1);
            court.exhibit(0, 1);
            court.object(0, side);
            court.object(1, side);
            court.sustain(0, side, false);
            court.sustain(1, side, true);
            check.same("not sustained", court.isAdmitted(0), true);
            check.same("sustained", court.isAdmitted(1), false);
        }
    }

    @Says(at = "Promise 33", value = "Throws `IndexOutOfBoundsException` if there is no such exhibit or side")
    static void p33NoSuchExhibitOrSide(Check check) {
        Courtdocket court = Scene.opened();
        court.exhibit(0, 1);
        court.exhibit(0, 1);
        court.object(1, 0);
        court.object(1, 1);
        Limits.noSuch(check, "exhibit", court, 2, (on, exhibit) -> on.sustain(exhibit, 0, false));
        check.index("side", court, 0, 1, side -> court.sustain(1, side, false));
        court.sustain(1, 0, false);
        check.same("one is open", court.isAdmitted(1), false);
        court.sustain(1, 1, false);
        check.same("none is", court.isAdmitted(1), true);
    }

    @Says(at = "Promise 33",
        value = "Throws `IllegalStateException` if the side has not objected, or it was sustained or not already")
    static void p33NothingToSustain(Check check) {
        for (boolean isSustained : new boolean[] {true, false}) {
            Courtdocket court = Scene.opened();
            court.exhibit(0, 1);
            check.state("0 has not", court, () -> court.sustain(0, 0, isSustained));
            court.object(0, 0);
            check.state("1 has not", court, () -> court.sustain(0, 1, isSustained));
            court.sustain(0, 0, isSustained);
            check.state("sustained or not: again", court, () -> court.sustain(0, 0, isSustained));
            check.state("sustained or not: otherwise", court, () -> court.sustain(0, 0, !isSustained));
            check.same("as it was", court.isAdmitted(0), !isSustained);
        }
    }

    @Says(at = "Promise 34", value = "Returns whether it is.")
    static void p34ReturnsWhetherItIs(Check check) {
        Courtdocket court = Scene.opened();
        court.exhibit(0, 1);
        check.same("at first", court.isAdmitted(0), true);
        court.object(0, 1);
        check.same("with an objection", court.isAdmitted(0), false);
        court.sustain(0, 1, false);
        check.same("not sustained", court.isAdmitted(0), true);
        court.hand(0, 2, 3);
        check.same("broken", court.isAdmitted(0), false);
    }

    @Says(at = "Promise 34", value = "Throws `IndexOutOfBoundsException` if there is no such exhibit")
    static void p34NoSuchExhibit(Check check) {
        Courtdocket court = Scene.cases(1);
        court.exhibit(0, 1);
        court.exhibit(0, 1);
        Limits.noSuch(check, "exhibit", court, 2, (on, exhibit) -> on.isAdmitted(exhibit));
        check.same("the last one", court.isAdmitted(1), true);
    }

    // ---- which exception is thrown

    @Says(at = "Classes", value = "If several apply, the one that the throws clause names first is thrown.")
    static void orderOfHearingAndTheJury(Check check) {
        Courtdocket court = struck();
        court.hearing(0, 1, 0);
        court.pass(1);
        check.index("hearing: no slot, no day", court, () -> court.hearing(0, 991, 4));
        check.index("hearing: no case, no day", court, () -> court.hearing(2, 0, 0));
        check.index("hearing: no slot, a free day", court, () -> court.hearing(0, 5, -1));
        check.argument("hearing: no day, which is free", court, () -> court.hearing(0, 992, 0));
        check.argument("hearing: today, where it would meet another one", court, () -> court.hearing(0, 1, 0));
        check.index("continueHearing: no hearing", court, () -> court.continueHearing(1));
        check.index("strike: no juror, all are done", court, () -> court.strike(0, 0, 14));
        check.index("strike: no side, all are done", court, () -> court.strike(0, 2, 0));
        check.index("strike: no juror, not its turn", court, () -> court.strike(1, 1, 14));
        check.index("dismiss: no juror, no jury", court, () -> court.dismiss(1, 14));
    }

    @Says(at = "Classes", value = "If several apply, the one that the throws clause names first is thrown.")
    static void orderOfExhibits(Check check) {
        Courtdocket court = Scene.cases(1);
        for (int exhibit = 0; exhibit < 12; exhibit++) {
            court.exhibit(0, 0);
        }
        check.index("exhibit: no person, a 13th", court, () -> court.exhibit(0, 16));
        check.index("exhibit: no case, a 13th", court, () -> court.exhibit(1, 0));
        court.object(0, 0);
        check.index("object: no side, 0 has objected", court, () -> court.object(0, 2));
        check.index("sustain: no side, 1 has not objected", court, () -> court.sustain(0, -1, true));
        check.index("sustain: no exhibit", court, () -> court.sustain(12, 1, true));
    }
}
