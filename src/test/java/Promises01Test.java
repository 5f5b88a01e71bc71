/** Promises 1 to 9: a new object, pass, holiday, setRule, open, join, lead, claim, sever. */
public final class Promises01Test {
    private static final int LOW = Integer.MIN_VALUE, HIGH = Integer.MAX_VALUE;

    private Promises01Test() {
    }

    public static void main(String[] args) {
        Sentences.run(Promises01Test.class);
    }

    @Says(at = "Promise 1", value = "No cases, holidays and entries; the day 0.")
    static void p01NothingIsThere(Check check) {
        Courtdocket court = new Courtdocket();
        check.same("the day", court.today(), 0);
        check.same("entries", court.entries(), 0);
        check.index("no case", court, () -> court.stay(0, true));
        check.index("no claim", court, () -> court.serve(0, 0));
        check.index("no entry", court, () -> court.entryAt(0, 0));
        check.index("no hearing", court, () -> court.continueHearing(0));
        check.index("no exhibit", court, () -> court.hand(0, 0, 1));
        for (int day = 1; day <= 30; day++) {
            check.same("no holiday " + day, court.holiday(day), day % 7 < 5);
        }
        check.same("the first case", court.open(0), 0);
    }

    @Says(at = "Promise 1", value = "No cases, holidays and entries; the day 0.")
    static void p01ObjectsAreApart(Check check) {
        Courtdocket first = Scene.won(5);
        first.pass(9);
        Courtdocket second = new Courtdocket();
        check.same("today", second.today(), 0);
        check.same("entries", second.entries(), 0);
        check.same("rules", first.setRule(0, 1, true) + second.setRule(0, 1, true), 42);
    }

    // ---- pass

    @Says(at = "Promise 2", value = "`days`: 1 to 60")
    static void p02Days1To60(Check check) {
        check.same("1", new Courtdocket().pass(1), 1);
        check.same("2", new Courtdocket().pass(2), 2);
        check.same("59", new Courtdocket().pass(59), 59);
        check.same("60", new Courtdocket().pass(60), 60);
    }

    @Says(at = "Promise 2", value = "Returns today.")
    static void p02ReturnsToday(Check check) {
        Courtdocket court = new Courtdocket();
        check.same("60", court.pass(60), 60);
        check.same("and 1", court.pass(1), 61);
        check.same("today", court.today(), 61);
    }

    @Says(at = "Promise 2", value = "Throws `IllegalArgumentException` if days is out of range")
    static void p02DaysOutOfRange(Check check) {
        Courtdocket court = Scene.at(10);
        check.argument("days", court, 1, 60, days -> court.pass(days));
        check.argument("days -1", court, () -> court.pass(-1));
        check.same("today", court.today(), 10);
    }

    @Says(at = "Promise 2", value = "Throws `IllegalStateException` if today would be above 900")
    static void p02NotAbove900(Check check) {
        Courtdocket court = Scene.at(899);
        check.state("901", court, () -> court.pass(2));
        check.state("959", court, () -> court.pass(60));
        check.same("today", court.today(), 899);
        check.same("900", court.pass(1), 900);
        check.state("901 from 900", court, () -> court.pass(1));
        check.state("960", court, () -> court.pass(60));
    }

    // ---- holiday

    @Says(at = "Promise 3", value = "`day`: 0 to 1000")
    static void p03Day0To1000(Check check) {
        Courtdocket court = new Courtdocket();
        check.state("0 is a day, if not behind today", court, () -> court.holiday(0));
        check.same("1", court.holiday(1), true);
        check.same("999", court.holiday(999), false);
        check.same("1000", court.holiday(1000), false);
        check.same("998", court.holiday(998), true);
        Courtdocket last = Scene.at(900);
        check.same("901", last.holiday(901), false);
        check.same("1000 on the last day", last.holiday(1000), false);
    }

    @Says(at = "Promise 3", value = "Returns whether it was not free.")
    static void p03ReturnsWhetherItWasNotFree(Check check) {
        Courtdocket court = new Courtdocket();
        boolean[] due = {true, true, true, true, false, false, true, true};
        for (int day = 1; day <= 8; day++) {
            check.same("the day " + day, court.holiday(day), due[day - 1]);
        }
    }

    @Says(at = "Promise 3", value = "Throws `IllegalArgumentException` if day is out of range")
    static void p03DayOutOfRange(Check check) {
        Courtdocket court = Scene.at(5);
        check.argument("day", court, 0, 1000, day -> court.holiday(day));
    }

    @Says(at = "Promise 3",
        value = "Throws `IllegalStateException` if it is not behind today, is a holiday, or there are 30")
    static void p03NotBehindToday(Check check) {
        Courtdocket court = Scene.at(9);
        for (int day : new int[] {0, 5, 8, 9}) {
            check.state("the day " + day, court, () -> court.holiday(day));
        }
        check.same("10", court.holiday(10), true);
    }

    @Says(at = "Promise 3",
        value = "Throws `IllegalStateException` if it is not behind today, is a holiday, or there are 30")
    static void p03IsAHoliday(Check check) {
        Courtdocket court = new Courtdocket();
        court.holiday(5);
        court.holiday(7);
        court.holiday(1000);
        for (int day : new int[] {5, 7, 1000}) {
            check.state("the day " + day, court, () -> court.holiday(day));
        }
        check.same("6 is free, but none", court.holiday(6), false);
    }

    @Says(at = "Promise 3",
        value = "Throws `IllegalStateException` if it is not behind today, is a holiday, or there are 30")
    static void p03ThereAre30(Check check) {
        Courtdocket court = new Courtdocket();
        for (int day = 1; day < 30; day++) {
            court.holiday(day);
        }
        check.same("the 30th", court.holiday(1000), false);
        check.state("a 31st", court, () -> court.holiday(999));
        court.pass(60);
        check.state("those that are over count", court, () -> court.holiday(999));
    }

    // ---- setRule

    @Says(at = "Promise 4", value = "`rule`: 0 to 4")
    static void p04Rule0To4(Check check) {
        Courtdocket court = new Courtdocket();
        check.same("0", court.setRule(0, 1, false), 21);
        check.same("4", court.setRule(4, 1, false), 5);
        check.same("3 is another one", court.setRule(3, 1, false), 14);
    }

    @Says(at = "Promise 4", value = "`days`: 1 to 60")
    static void p04Days1To60(Check check) {
        Courtdocket court = Scene.claims(2);
        court.setRule(0, 1, false);
        court.serve(0, 0);
        check.same("1", court.due(0, 0), 1);
        court.setRule(0, 60, false);
        court.serve(1, 0);
        check.same("60", court.due(0, 1), 60);
    }

    @Says(at = "Promise 4", value = "`isWorking`: whether these are working days")
    static void p04IsWorking(Check check) {
        Courtdocket court = Scene.claims(2);
        court.setRule(0, 5, true);
        court.serve(0, 0);
        check.same("5 working days", court.due(0, 0), 7);
        court.setRule(0, 7, true);
        court.setRule(0, 7, false);
        court.serve(1, 0);
        check.same("7 days", court.due(0, 1), 7);
        check.same("the rule of a cure is not touched", court.answer(0), 2);
        court.setRule(4, 5, false);
        check.same("5 days for a cure", court.defect(2), 7);
        court.answer(1);
        court.setRule(4, 6, true);
        check.same("6 working days for a cure", court.defect(3), 8);
    }

    @Says(at = "Promise 4", value = "Returns the days before.")
    static void p04ReturnsTheDaysBefore(Check check) {
        Courtdocket court = new Courtdocket();
        check.same("at first", court.setRule(2, 60, true), 30);
        check.same("then", court.setRule(2, 1, false), 60);
        check.same("and then", court.setRule(2, 30, false), 1);
        check.same("of another rule", court.setRule(1, 30, false), 14);
    }

    @Says(at = "Promise 4", value = "Throws `IndexOutOfBoundsException` if there is no such rule")
    static void p04NoSuchRule(Check check) {
        Courtdocket court = new Courtdocket();
        check.index("rule", court, 0, 4, rule -> court.setRule(rule, 1, true));
    }

    @Says(at = "Promise 4", value = "Throws `IllegalArgumentException` if days is out of range")
    static void p04DaysOutOfRange(Check check) {
        Courtdocket court = new Courtdocket();
        for (int rule = 0; rule < 5; rule++) {
            int of = rule;
            check.argument("days", court, 1, 60, days -> court.setRule(of, days, true));
        }
        check.same("the rule is as it was", court.setRule(4, 1, true), 5);
    }

    // ---- open

    @Says(at = "Promise 5", value = "`judge`: 0 to 2")
    static void p05Judge0To2(Check check) {
        Courtdocket court = new Courtdocket();
        check.same("0", court.open(0), 0);
        check.same("2", court.open(2), 1);
        check.same("1", court.open(1), 2);
    }

    @Says(at = "Promise 5", value = "Returns its number.")
    static void p05ReturnsItsNumber(Check check) {
        Courtdocket court = new Courtdocket();
        for (int number = 0; number < 8; number++) {
            check.same("case " + number, court.open(0), number);
        }
        Courtdocket severed = Scene.claimed();
        severed.sever(0);
        check.same("behind a severed one", severed.open(0), 2);
    }

    @Says(at = "Promise 5", value = "Throws `IndexOutOfBoundsException` if there is no such judge")
    static void p05NoSuchJudge(Check check) {
        Courtdocket court = new Courtdocket();
        check.index("judge", court, 0, 2, judge -> court.open(judge));
        check.same("none was opened", court.open(0), 0);
    }

    @Says(at = "Promise 5", value = "Throws `IllegalStateException` if there are 8")
    static void p05ThereAre8(Check check) {
        Courtdocket court = Scene.cases(7);
        check.same("the eighth", court.open(0), 7);
        check.state("a ninth", court, () -> court.open(0));
        Courtdocket severed = Scene.claimed();
        for (int number = 1; number < 8; number++) {
            severed.sever(0);
        }
        check.state("severed ones count", severed, () -> severed.open(0));
    }

    // ---- join

    @Says(at = "Promise 6", value = "`person`: 0 to 15")
    static void p06Person0To15(Check check) {
        Courtdocket court = Scene.cases(1);
        check.same("0", court.join(0, 0, 0), 1);
        check.same("15", court.join(0, 15, 0), 2);
    }

    @Says(at = "Promise 6", value = "`side`: 0 or 1")
    static void p06Side0Or1(Check check) {
        Courtdocket court = Scene.cases(1);
        court.join(0, 0, 0);
        court.join(0, 1, 1);
        check.same("0 against 1", court.claim(0, 0, 1, 1), 0);
        check.same("1 against 0", court.claim(0, 1, 0, 1), 1);
    }

    @Says(at = "Promise 6", value = "Returns how many parties the case has then.")
    static void p06ReturnsHowManyParties(Check check) {
        Courtdocket court = Scene.cases(2);
        for (int person = 0; person < 16; person++) {
            check.same("with " + person, court.join(0, person, person % 2), person + 1);
        }
        check.same("of another case", court.join(1, 3, 0), 1);
    }

    @Says(at = "Promise 6", value = "Throws `IndexOutOfBoundsException` if there is no such case, person or side")
    static void p06NoSuchCasePersonOrSide(Check check) {
        Courtdocket court = Scene.cases(2);
        Limits.noSuch(check, "case", court, 2, (on, number) -> on.join(number, 0, 0));
        check.index("person", court, 0, 15, person -> court.join(1, person, 0));
        check.index("side", court, 0, 1, side -> court.join(1, 0, side));
        check.same("none came in", court.join(1, 0, 0), 1);
    }

    @Says(at = "Promise 6", value = "Throws `IllegalStateException` if the person is a party of the case")
    static void p06APartyAlready(Check check) {
        Courtdocket court = Scene.cases(2);
        for (int person : new int[] {0, 15}) {
            court.join(0, person, 1);
            check.state("on the same side", court, () -> court.join(0, person, 1));
            check.state("on the other side", court, () -> court.join(0, person, 0));
        }
        check.same("in another case", court.join(1, 0, 0), 1);
        Courtdocket severed = Scene.claimed();
        severed.sever(0);
        check.state("by severing", severed, () -> severed.join(1, 1, 1));
    }

    // ---- lead

    @Says(at = "Promise 7", value = "`by`: another one, or NONE")
    static void p07ByAnotherOneOrNone(Check check) {
        Courtdocket court = Scene.cases(8);
        check.same("by the last one", court.lead(0, 7), -1);
        check.same("by NONE", court.lead(0, -1), 7);
        check.same("by the first one", court.lead(7, 0), -1);
    }

    @Says(at = "Promise 7", value = "Returns by which one it was led; NONE for none.")
    static void p07ReturnsByWhichOne(Check check) {
        Courtdocket court = Scene.cases(3);
        check.same("by none", court.lead(1, -1), -1);
        check.same("by none then", court.lead(1, 0), -1);
        check.same("by 0", court.lead(1, 0), 0);
        check.same("by 0 then", court.lead(1, 2), 0);
        check.same("by 2", court.lead(1, -1), 2);
        check.same("by none again", court.lead(1, -1), -1);
    }

    @Says(at = "Promise 7", value = "Throws `IndexOutOfBoundsException` if there is no such case, of either")
    static void p07NoSuchCaseOfEither(Check check) {
        Courtdocket court = Scene.cases(2);
        Limits.noSuch(check, "case", court, 2, (on, number) -> on.lead(number, -1));
        check.index("by", court, -1, 1, by -> court.lead(0, by));
        check.index("both", court, () -> court.lead(2, 2));
        check.same("the last one", court.lead(0, 1), -1);
    }

    @Says(at = "Promise 7",
        value = "Throws `IllegalStateException` if another one is told, and both are the same, the case leads others, "
            + "or the other one is led")
    static void p07CannotBeLed(Check check) {
        Courtdocket court = Scene.cases(5);
        check.state("by itself", court, () -> court.lead(0, 0));
        court.lead(1, 0);
        check.state("0 leads others", court, () -> court.lead(0, 2));
        check.state("the other one, 1, is led", court, () -> court.lead(2, 1));
        check.state("by which it leads", court, () -> court.lead(0, 1));
        check.state("led, by itself", court, () -> court.lead(1, 1));
        check.same("none is told: 0 leads others", court.lead(0, -1), -1);
        check.same("none is told: 1 is led", court.lead(1, -1), 0);
        check.same("0 leads none then", court.lead(0, 2), -1);
        check.same("1 is not led then", court.lead(3, 1), -1);
    }

    // ---- claim

    @Says(at = "Promise 8", value = "`amount`: 1 to 99999")
    static void p08Amount1To99999(Check check) {
        Courtdocket court = Scene.opened();
        int[] amounts = {1, 2, 99998, 99999};
        for (int claim = 0; claim < amounts.length; claim++) {
            court.claim(0, 0, 1, amounts[claim]);
            check.same("amount", court.amountOf(claim), amounts[claim]);
        }
    }

    @Says(at = "Promise 8", value = "Returns the number of the claim.")
    static void p08ReturnsTheNumber(Check check) {
        Courtdocket court = Scene.opened();
        for (int claim = 0; claim < 24; claim++) {
            check.same("claim " + claim, court.claim(0, 0, 2, 5), claim);
        }
    }

    @Says(at = "Promise 8", value = "Throws `IndexOutOfBoundsException` if there is no such case or person")
    static void p08NoSuchCaseOrPerson(Check check) {
        Courtdocket court = Scene.opened();
        court.join(0, 15, 1);
        Limits.noSuch(check, "case", court, 1, (on, number) -> on.claim(number, 0, 1, 1));
        check.index("from", court, 0, 15, person -> court.claim(0, person, 1, 1));
        check.index("against", court, 0, 15, person -> court.claim(0, 0, person, 1));
        check.same("from 15 against 0", court.claim(0, 15, 0, 1), 0);
    }

    @Says(at = "Promise 8", value = "Throws `IllegalArgumentException` if amount is out of range")
    static void p08AmountOutOfRange(Check check) {
        Courtdocket court = Scene.opened();
        check.argument("amount", court, 1, 99999, amount -> court.claim(0, 0, 1, amount));
        check.argument("amount -1", court, () -> court.claim(0, 0, 1, -1));
        check.index("none was made", court, () -> court.amountOf(0));
    }

    @Says(at = "Promise 8",
        value = "Throws `IllegalStateException` if one of both is no party, both are on one side, or there are 24")
    static void p08NotBetweenSides(Check check) {
        Courtdocket court = Scene.opened();
        court.open(0);
        court.join(1, 3, 0);
        court.join(0, 4, 0);
        check.state("from no party", court, () -> court.claim(0, 3, 1, 1));
        check.state("against no party", court, () -> court.claim(0, 0, 3, 1));
        check.state("from the side 1 against no party", court, () -> court.claim(0, 1, 3, 1));
        check.state("from no party against the side 0", court, () -> court.claim(0, 3, 0, 1));
        check.state("neither is one", court, () -> court.claim(0, 3, 5, 1));
        check.state("a party of another case", court, () -> court.claim(1, 3, 0, 1));
        check.state("both on the side 0", court, () -> court.claim(0, 0, 4, 1));
        check.state("both on the side 1", court, () -> court.claim(0, 1, 2, 1));
        check.state("against oneself", court, () -> court.claim(0, 0, 0, 1));
        check.same("of both sides", court.claim(0, 4, 2, 1), 0);
    }

    @Says(at = "Promise 8",
        value = "Throws `IllegalStateException` if one of both is no party, both are on one side, or there are 24")
    static void p08ThereAre24(Check check) {
        Courtdocket court = Scene.claims(23);
        check.same("the 24th", court.claim(0, 0, 1, 1), 23);
        check.state("a 25th", court, () -> court.claim(0, 0, 1, 1));
        check.index("claim 24", court, () -> court.stateOf(24));
    }

    // ---- sever

    @Says(at = "Promise 9", value = "Returns the number of the new case.")
    static void p09ReturnsTheNewCase(Check check) {
        Courtdocket court = Scene.claims(2);
        check.same("the first", court.sever(1), 1);
        check.same("the second", court.sever(0), 2);
        check.same("of one that was severed", court.sever(1), 3);
        check.same("its case", court.caseOf(1), 3);
        check.same("the case of the other one", court.caseOf(0), 2);
    }

    @Says(at = "Promise 9", value = "Throws `IndexOutOfBoundsException` if there is no such claim")
    static void p09NoSuchClaim(Check check) {
        Limits.noSuch(check, "claim", Scene.claims(2), 2, (on, claim) -> on.sever(claim));
        check.same("the last one", Scene.claims(2).sever(1), 1);
    }

    @Says(at = "Promise 9", value = "Throws `IllegalStateException` if it is at its end, or there are 8 cases")
    static void p09AtItsEnd(Check check) {
        for (int state = 0; state < 6; state++) {
            Courtdocket court = Scene.inState(state);
            if (state == Courtdocket.SETTLED || state == Courtdocket.PAID) {
                check.state("in the state " + state, court, () -> court.sever(0));
                check.same("its case in the state " + state, court.caseOf(0), 0);
            } else {
                check.same("in the state " + state, court.sever(0), 1);
                check.same("its state " + state, court.stateOf(0), state);
            }
        }
    }

    @Says(at = "Promise 9", value = "Throws `IllegalStateException` if it is at its end, or there are 8 cases")
    static void p09ThereAre8Cases(Check check) {
        Courtdocket court = Scene.claimed();
        for (int number = 1; number < 7; number++) {
            court.open(0);
        }
        check.same("the eighth", court.sever(0), 7);
        check.state("a ninth", court, () -> court.sever(0));
        check.same("its case", court.caseOf(0), 7);
    }

    // ---- which exception is thrown

    @Says(at = "Classes", value = "If several apply, the one that the throws clause names first is thrown.")
    static void orderOfPassHolidayAndSetRule(Check check) {
        Courtdocket last = Scene.at(900);
        for (int days : new int[] {0, 61, LOW, HIGH}) {
            check.argument("pass " + days + ", above 900", last, () -> last.pass(days));
        }
        check.argument("a holiday -1, not behind today", last, () -> last.holiday(-1));
        Courtdocket court = new Courtdocket();
        for (int day = 1; day <= 30; day++) {
            court.holiday(day);
        }
        check.argument("a 31st holiday 1001", court, () -> court.holiday(1001));
        check.index("no rule, no days", court, () -> court.setRule(5, 0, true));
        check.index("no rule, no days", court, () -> court.setRule(-1, 61, true));
    }

    @Says(at = "Classes", value = "If several apply, the one that the throws clause names first is thrown.")
    static void orderOfOpenJoinLeadClaimAndSever(Check check) {
        Courtdocket court = Scene.claimed();
        court.settle(0);
        while (court.open(0) < 7) {
            court.today();
        }
        for (int claim = 1; claim < 24; claim++) {
            court.claim(0, 0, 1, 5);
        }
        check.index("no judge, a ninth case", court, () -> court.open(3));
        check.index("a party, no side", court, () -> court.join(0, 0, 2));
        check.index("no case, led by itself", court, () -> court.lead(8, 8));
        court.lead(1, 0);
        check.index("0 leads others, no case", court, () -> court.lead(0, 8));
        check.index("no person, no amount, a 25th claim", court, () -> court.claim(0, 0, 16, 0));
        check.index("no case, no amount", court, () -> court.claim(8, 0, 1, 0));
        check.argument("no amount, a 25th claim", court, () -> court.claim(0, 0, 1, 0));
        check.argument("no amount, both on one side", court, () -> court.claim(0, 1, 2, 100000));
        check.index("no claim, a ninth case", court, () -> court.sever(24));
    }
}
