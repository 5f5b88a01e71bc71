/** What stands under "Deadlines". */
public final class TermsDeadlinesTest {
    private TermsDeadlinesTest() {
    }

    public static void main(String[] args) {
        Sentences.run(TermsDeadlinesTest.class);
    }

    /** A deadline by both ways of asking. */
    private static void due(Check check, String what, Courtdocket court, int sort, int number, int due) {
        check.same(what + ": due", court.due(sort, number), due);
        check.same(what + ": dueByDays", court.dueByDays(sort, number), due);
    }

    /** The claim 0, served on a day, with some days for an answer. */
    private static Courtdocket served(int day, int days, boolean isWorking) {
        Courtdocket court = Scene.claimed();
        Scene.pass(court, day);
        court.setRule(0, days, isWorking);
        court.serve(0, 0);
        return court;
    }

    // ---- the rules

    @Says(at = "Deadlines",
        value = "There are five rules, of days and whether these are working days, which are those that are not free: "
            + "0 ANSWER, 21 days; 1 RESPONSE, 14; 2 APPEAL, 30; 3 AFTER, 14; 4 CURE, 5 working days.")
    static void theFiveRules(Check check) {
        Courtdocket court = new Courtdocket();
        int[] days = {21, 14, 30, 14, 5};
        for (int rule = 0; rule < 5; rule++) {
            check.same("the days of the rule " + rule, court.setRule(rule, 60, true), days[rule]);
        }
        check.index("rule", court, 0, 4, rule -> court.setRule(rule, 1, true));
    }

    @Says(at = "Deadlines",
        value = "There are five rules, of days and whether these are working days, which are those that are not free: "
            + "0 ANSWER, 21 days; 1 RESPONSE, 14; 2 APPEAL, 30; 3 AFTER, 14; 4 CURE, 5 working days.")
    static void whichOfTheRulesAreOfWorkingDays(Check check) {
        Courtdocket court = Scene.served();
        due(check, "ANSWER: 21 days", court, 0, 0, 21);
        court.motion(0);
        due(check, "RESPONSE: 14 days", court, 1, 1, 14);
        court.defect(1);
        due(check, "CURE: 5 working days", court, 3, 1, 7);
        court.respond(1);
        court.ruling(1, -1);
        due(check, "AFTER: 14 days", court, 0, 0, 14);
        court.answer(0);
        court.judge(0, 10);
        due(check, "APPEAL: 30 days", court, 2, 0, 30);
    }

    @Says(at = "Deadlines",
        value = "There are five rules, of days and whether these are working days, which are those that are not free: "
            + "0 ANSWER, 21 days; 1 RESPONSE, 14; 2 APPEAL, 30; 3 AFTER, 14; 4 CURE, 5 working days.")
    static void workingDaysAreNotFree(Check check) {
        due(check, "4 working days", served(0, 4, true), 0, 0, 4);
        due(check, "5 working days", served(0, 5, true), 0, 0, 7);
        due(check, "10 working days", served(0, 10, true), 0, 0, 14);
        due(check, "1 from the last working day of a week", served(4, 1, true), 0, 0, 7);
        due(check, "1 from a free day", served(5, 1, true), 0, 0, 7);
        due(check, "1 from the last free day", served(6, 1, true), 0, 0, 7);
        Courtdocket holiday = served(0, 4, true);
        holiday.holiday(3);
        due(check, "over a holiday", holiday, 0, 0, 7);
        holiday.holiday(6);
        due(check, "over a holiday that was free anyhow", holiday, 0, 0, 7);
    }

    @Says(at = "Deadlines",
        value = "Of each deadline the rule counts that was in force when the entry was made, or the defect told, with "
            + "which it begins.")
    static void theRuleOfTheEntryCounts(Check check) {
        Courtdocket court = Scene.claims(2);
        court.setRule(0, 8, false);
        court.serve(0, 0);
        court.setRule(0, 9, false);
        due(check, "the rule of the SERVE", court, 0, 0, 8);
        court.setRule(0, 8, true);
        due(check, "whether these are working days", court, 0, 0, 8);
        court.serve(1, 0);
        due(check, "the later SERVE", court, 0, 1, 10);
        court.setRule(1, 8, false);
        court.motion(0);
        court.setRule(1, 8, true);
        due(check, "the rule of the MOTION", court, 1, 2, 8);
        court.respond(2);
        court.setRule(3, 8, true);
        court.ruling(2, 900);
        court.setRule(3, 8, false);
        due(check, "the rule of the RULING", court, 0, 0, 10);
        court.vacate(0);
        due(check, "the rule of the VACATE", court, 0, 0, 8);
        court.setRule(3, 9, false);
        due(check, "the rule of the VACATE, and a later one", court, 0, 0, 8);
    }

    @Says(at = "Deadlines",
        value = "Of each deadline the rule counts that was in force when the entry was made, or the defect told, with "
            + "which it begins.")
    static void theRuleOfTheOrderAndOfTheDefectCounts(Check check) {
        Courtdocket court = Scene.answered();
        court.setRule(2, 8, false);
        court.judge(0, 100);
        court.setRule(2, 8, true);
        due(check, "the rule of the JUDGEMENT", court, 2, 0, 8);
        court.appeal(0);
        court.decide(0, 0, 0);
        court.setRule(2, 60, false);
        due(check, "the rule of the DECISION", court, 2, 0, 10);
        court.setRule(4, 8, false);
        check.same("the rule of the defect, not of the ANSWER", court.defect(1), 8);
        court.setRule(4, 8, true);
        due(check, "the rule of the defect", court, 3, 1, 8);
    }

    /** Sets other days, other sorts of days, and both, which must not move a deadline; puts the rule back. */
    private static void held(Check check, String what, Courtdocket court, int rule, int sort, int number, int due) {
        boolean isWorking = rule == 4;
        due(check, what, court, sort, number, due);
        int days = court.setRule(rule, 40, isWorking);
        due(check, what + ", 40 days later", court, sort, number, due);
        court.setRule(rule, 1, !isWorking);
        due(check, what + ", 1 day of the other sort later", court, sort, number, due);
        court.setRule(rule, days, !isWorking);
        due(check, what + ", as many of the other sort later", court, sort, number, due);
        court.setRule(rule, days, isWorking);
    }

    @Says(at = "Deadlines",
        value = "Of each deadline the rule counts that was in force when the entry was made, or the defect told, with "
            + "which it begins.")
    static void noLaterRuleCounts(Check check) {
        Courtdocket court = Scene.served();
        held(check, "the SERVE", court, 0, 0, 0, 21);
        court.motion(0);
        held(check, "the MOTION", court, 1, 1, 1, 14);
        court.respond(1);
        court.ruling(1, 500);
        held(check, "the RULING", court, 3, 0, 0, 14);
        court.vacate(0);
        held(check, "the VACATE", court, 3, 0, 0, 14);
        court.answer(0);
        held(check, "answered", court, 0, 0, 0, 14);
        court.defect(5);
        held(check, "the defect", court, 4, 3, 5, 7);
        court.judge(0, 300);
        held(check, "the JUDGEMENT", court, 2, 2, 0, 30);
        court.appeal(0);
        court.pass(1);
        court.decide(0, 0, 0);
        held(check, "the DECISION", court, 2, 2, 0, 31);
        court.pass(6);
        check.same("it can be cured still", court.cure(5), true);
    }

    // ---- how days count

    @Says(at = "Deadlines",
        value = "A deadline begins on a day, and has a number of days. From the day behind the first one on each day "
            + "counts, or each working day")
    static void daysCountFromTheDayBehindTheFirstOne(Check check) {
        due(check, "1 day", served(0, 1, false), 0, 0, 1);
        due(check, "2 days", served(0, 2, false), 0, 0, 2);
        due(check, "1 working day", served(0, 1, true), 0, 0, 1);
        due(check, "60 days", served(0, 60, false), 0, 0, 60);
        due(check, "60 working days", served(0, 60, true), 0, 0, 84);
        due(check, "3 days, over free ones", served(4, 3, false), 0, 0, 7);
        due(check, "3 working days, over free ones", served(4, 3, true), 0, 0, 9);
        due(check, "from a free day", served(5, 2, false), 0, 0, 7);
        due(check, "from the last day, over 901 and 902", served(900, 3, false), 0, 0, 903);
        due(check, "from the last day, 1 day, which is free", served(900, 1, false), 0, 0, 903);
    }

    @Says(at = "Deadlines",
        value = "but none on which the case of the claim, or that which leads it, as both are now, is stayed")
    static void stayedDaysDoNotCount(Check check) {
        Courtdocket court = served(0, 8, false);
        court.open(1);
        court.open(2);
        court.stay(1, true);
        court.pass(1);
        court.stay(0, true);
        court.pass(1);
        court.stay(0, false);
        court.pass(1);
        court.stay(1, false);
        due(check, "its own stay, on the day 1", court, 0, 0, 9);
        court.lead(0, 1);
        due(check, "and that of its leader, on 0 to 2", court, 0, 0, 10);
        court.lead(0, 2);
        due(check, "another leader", court, 0, 0, 9);
        court.lead(0, -1);
        court.lead(1, 0);
        due(check, "one that it leads", court, 0, 0, 9);
    }

    @Says(at = "Deadlines",
        value = "but none on which the case of the claim, or that which leads it, as both are now, is stayed")
    static void theCaseAndItsLeaderAreThoseOfNow(Check check) {
        Courtdocket court = served(0, 8, false);
        court.stay(0, true);
        court.pass(3);
        court.stay(0, false);
        due(check, "stayed on 1 and 2", court, 0, 0, 10);
        court.sever(0);
        due(check, "severed", court, 0, 0, 8);
        court.lead(1, 0);
        due(check, "led by the old case", court, 0, 0, 10);
        court.stay(1, true);
        court.pass(1);
        court.stay(1, false);
        due(check, "stayed on 3, too", court, 0, 0, 11);
        court.lead(1, -1);
        due(check, "led by none", court, 0, 0, 9);
        court.stay(0, true);
        due(check, "the old case is stayed", court, 0, 0, 9);
        court.lead(1, 0);
        due(check, "led by one that is stayed", court, 0, 0, -1);
    }

    @Says(at = "Deadlines",
        value = "It is the day on which the last one counts; if that is free, or stayed, the next day that is neither.")
    static void theEndIsNotFree(Check check) {
        due(check, "the day ahead of free ones", served(0, 4, false), 0, 0, 4);
        due(check, "the first free one", served(0, 5, false), 0, 0, 7);
        due(check, "the last free one", served(0, 6, false), 0, 0, 7);
        due(check, "the day behind them", served(0, 7, false), 0, 0, 7);
        Courtdocket holiday = served(0, 5, false);
        holiday.holiday(7);
        due(check, "a holiday behind them", holiday, 0, 0, 8);
        holiday.holiday(4);
        due(check, "a holiday ahead of them", holiday, 0, 0, 8);
        Courtdocket ahead = served(0, 4, false);
        ahead.holiday(4);
        due(check, "a holiday, then free days", ahead, 0, 0, 7);
    }

    @Says(at = "Deadlines",
        value = "It is the day on which the last one counts; if that is free, or stayed, the next day that is neither.")
    static void theEndIsNotStayed(Check check) {
        Courtdocket court = served(0, 5, false);
        court.pass(7);
        court.stay(0, true);
        court.pass(1);
        court.stay(0, false);
        due(check, "5 and 6 are free, 7 is stayed", court, 0, 0, 8);
        Courtdocket leader = served(0, 5, false);
        leader.open(0);
        leader.pass(7);
        leader.stay(1, true);
        leader.pass(5);
        leader.stay(1, false);
        due(check, "not led", leader, 0, 0, 7);
        leader.lead(0, 1);
        due(check, "its leader is stayed on 7 to 11, 12 and 13 are free", leader, 0, 0, 14);
        Courtdocket ahead = served(0, 4, false);
        ahead.pass(4);
        ahead.stay(0, true);
        ahead.pass(1);
        ahead.stay(0, false);
        due(check, "4 is stayed, 5 counts and is free", ahead, 0, 0, 7);
    }

    @Says(at = "Deadlines",
        value = "If the case is stayed from some day on without a LIFT, days behind today are stayed, too")
    static void aStayWithoutALiftHasNoEnd(Check check) {
        Courtdocket court = served(0, 8, false);
        court.stay(0, true);
        due(check, "stayed", court, 0, 0, -1);
        court.pass(60);
        due(check, "still", court, 0, 0, -1);
        court.stay(0, false);
        due(check, "8 days from 60 on", court, 0, 0, 67);
        court.stay(0, true);
        due(check, "stayed again", court, 0, 0, -1);
        Courtdocket last = served(0, 8, false);
        Scene.pass(last, 8);
        last.stay(0, true);
        due(check, "stayed on the last day", last, 0, 0, -1);
        Courtdocket over = served(0, 8, false);
        Scene.pass(over, 9);
        over.stay(0, true);
        due(check, "stayed behind the last day", over, 0, 0, 8);
    }

    @Says(at = "Deadlines", value = "what does not end by the day 1400 is NONE, and today is not behind it")
    static void whatDoesNotEndBy1400IsNone(Check check) {
        Courtdocket court = served(900, 60, false);
        for (int times = 0; times < 7; times++) {
            court.extend(0, 0, 60);
        }
        due(check, "480 days", court, 0, 0, 1380);
        court.extend(0, 0, 16);
        due(check, "496 days", court, 0, 0, 1396);
        court.extend(0, 0, 1);
        due(check, "497 days", court, 0, 0, 1397);
        court.extend(0, 0, 1);
        due(check, "498 days: 1398 and 1399 are free", court, 0, 0, 1400);
        court.extend(0, 0, 1);
        due(check, "499 days", court, 0, 0, 1400);
        court.extend(0, 0, 1);
        due(check, "500 days", court, 0, 0, 1400);
        check.same("501 days", court.extend(0, 0, 1), -1);
        due(check, "501 days", court, 0, 0, -1);
        check.same("today is not behind it", court.answer(0), 1);
    }

    @Says(at = "Deadlines", value = "what does not end by the day 1400 is NONE, and today is not behind it")
    static void workingDaysUpTo1400(Check check) {
        Courtdocket court = served(900, 58, true);
        for (int times = 0; times < 5; times++) {
            court.extend(0, 0, 60);
        }
        // 900 is the last working day of its week: the 71 weeks from 903 to 1399 have 355, and 1400 is the 356th.
        due(check, "358 working days", court, 0, 0, -1);
        Courtdocket last = served(900, 55, true);
        for (int times = 0; times < 5; times++) {
            last.extend(0, 0, 60);
        }
        due(check, "355 working days", last, 0, 0, 1397);
        last.extend(0, 0, 1);
        due(check, "356 working days", last, 0, 0, 1400);
        last.extend(0, 0, 1);
        due(check, "357 working days", last, 0, 0, -1);
    }

    @Says(at = "Deadlines", value = "what does not end by the day 1400 is NONE, and today is not behind it")
    static void aStayUpTo900(Check check) {
        Courtdocket court = served(0, 60, false);
        court.stay(0, true);
        Scene.pass(court, 900);
        due(check, "stayed", court, 0, 0, -1);
        check.state("so there is no default", court, () -> court.judge(0, -1));
        court.stay(0, false);
        due(check, "60 days from 900 on", court, 0, 0, 959);
        check.same("answered", court.answer(0), 3);
    }

    // ---- with what they begin

    @Says(at = "Deadlines",
        value = "For an answer: from the SERVE, by ANSWER, and 0, 3 or 7 days more, of the sort of the rule, by the "
            + "way of it, 0, 1 or 2.")
    static void forAnAnswerByTheWay(Check check) {
        int[] days = {10, 14, 17};
        int[] working = {14, 17, 23};
        for (int way = 0; way < 3; way++) {
            Courtdocket court = Scene.claims(2);
            due(check, "not served", court, 0, 0, -1);
            court.setRule(0, 10, false);
            court.serve(0, way);
            due(check, "10 days, by way " + way, court, 0, 0, days[way]);
            court.setRule(0, 10, true);
            court.serve(1, way);
            due(check, "10 working days, by way " + way, court, 0, 1, working[way]);
        }
        Courtdocket most = Scene.claimed();
        most.setRule(0, 60, false);
        most.serve(0, 2);
        due(check, "60 days, by way 2", most, 0, 0, 67);
        Courtdocket anew = Scene.claimed();
        anew.serve(0, 2);
        anew.motion(0);
        anew.respond(1);
        anew.ruling(1, -1);
        due(check, "by AFTER there are no days more", anew, 0, 0, 14);
    }

    @Says(at = "Deadlines", value = "But with a MOTION of the claim that is open it is NONE")
    static void forAnAnswerWithAnOpenMotion(Check check) {
        Courtdocket court = Scene.claims(2);
        court.serve(0, 0);
        court.serve(1, 0);
        court.motion(0);
        due(check, "open", court, 0, 0, -1);
        due(check, "another claim", court, 0, 1, 21);
        court.defect(2);
        court.pass(7);
        due(check, "on the last day for its cure", court, 0, 0, -1);
        court.pass(1);
        due(check, "it counts no more", court, 0, 0, 21);
        court.motion(0);
        due(check, "a second one", court, 0, 0, -1);
        court.settle(0);
        due(check, "SETTLED", court, 0, 0, -1);
    }

    @Says(at = "Deadlines",
        value = "and if the claim has a RULING that was not granted, or a VACATE of a RULING, from the day of the "
            + "latest entry that is one of these, by AFTER")
    static void forAnAnswerAfterARuling(Check check) {
        for (int amount : new int[] {-1, 1, 999}) {
            Courtdocket court = Scene.responded();
            court.pass(3);
            court.ruling(1, amount);
            due(check, "a RULING of " + amount, court, 0, 0, 17);
            court.motion(0);
            court.pass(1);
            court.respond(4);
            court.ruling(4, -1);
            due(check, "the later of two", court, 0, 0, 18);
        }
        Courtdocket granted = Scene.responded();
        granted.pass(3);
        granted.ruling(1, 0);
        due(check, "granted: from the SERVE still", granted, 0, 0, 21);
        Courtdocket late = Scene.responded();
        late.pass(60);
        late.ruling(1, -1);
        due(check, "behind the first one", late, 0, 0, 74);
    }

    @Says(at = "Deadlines",
        value = "and if the claim has a RULING that was not granted, or a VACATE of a RULING, from the day of the "
            + "latest entry that is one of these, by AFTER")
    static void forAnAnswerAfterAVacate(Check check) {
        Courtdocket court = Scene.responded();
        court.ruling(1, 500);
        court.answer(0);
        court.judge(0, 400);
        court.pass(2);
        court.vacate(0);
        due(check, "a VACATE of a JUDGEMENT does not begin it", court, 0, 0, 14);
        court.vacate(0);
        due(check, "a VACATE of a RULING in part", court, 0, 0, 16);
        Courtdocket granted = Scene.responded();
        granted.ruling(1, 0);
        granted.pass(2);
        granted.vacate(0);
        due(check, "a VACATE of a RULING that was granted", granted, 0, 0, 16);
        Courtdocket other = Scene.claims(2);
        other.serve(0, 0);
        other.serve(1, 0);
        other.motion(1);
        other.respond(2);
        other.ruling(2, -1);
        due(check, "a RULING of another claim", other, 0, 0, 21);
    }

    @Says(at = "Deadlines", value = "For a RESPONSE: from its MOTION, by RESPONSE.")
    static void forAResponse(Check check) {
        Courtdocket court = Scene.claims(2);
        court.serve(0, 0);
        court.serve(1, 0);
        court.pass(3);
        court.motion(0);
        court.pass(1);
        court.motion(1);
        due(check, "the first MOTION", court, 1, 2, 17);
        due(check, "the second MOTION", court, 1, 3, 18);
        court.respond(2);
        due(check, "responded to", court, 1, 2, 17);
        court.ruling(2, -1);
        due(check, "ruled on", court, 1, 2, 17);
    }

    @Says(at = "Deadlines",
        value = "For an APPEAL, of a claim that is WON: from its latest JUDGEMENT or DECISION, by APPEAL.")
    static void forAnAppeal(Check check) {
        for (int state = 0; state < 6; state++) {
            Courtdocket court = Scene.inState(state);
            due(check, "in the state " + state, court, 2, 0, state == Courtdocket.WON ? 30 : -1);
        }
        Courtdocket court = Scene.won(600);
        court.pass(2);
        court.vacate(0);
        due(check, "vacated", court, 2, 0, -1);
        court.judge(0, 500);
        due(check, "the latest JUDGEMENT", court, 2, 0, 32);
        court.appeal(0);
        due(check, "APPEALED", court, 2, 0, -1);
        court.pass(1);
        court.decide(0, 0, 0);
        due(check, "the DECISION", court, 2, 0, 35);
        court.pass(1);
        court.pay(0, 10);
        due(check, "something is paid", court, 2, 0, 35);
        Courtdocket back = Scene.appealed(600);
        back.decide(0, 2, 600);
        due(check, "sent back", back, 2, 0, -1);
        back.pass(2);
        back.judge(0, 500);
        due(check, "the JUDGEMENT behind the DECISION", back, 2, 0, 32);
    }

    @Says(at = "Deadlines", value = "For a cure: from the day of the defect, by CURE.")
    static void forACure(Check check) {
        Courtdocket court = Scene.answered();
        due(check, "no defect", court, 3, 1, -1);
        due(check, "of a SERVE", court, 3, 0, -1);
        court.pass(2);
        check.same("told", court.defect(1), 9);
        due(check, "from the day of the defect", court, 3, 1, 9);
        court.pass(1);
        court.cure(1);
        due(check, "cured", court, 3, 1, 9);
    }

    // ---- extensions

    @Says(at = "Deadlines",
        value = "The court can extend a deadline of the first three sorts, as long as today is not behind it, and it "
            + "is not NONE")
    static void extendUpToTheLastDay(Check check) {
        Courtdocket answer = Scene.served();
        answer.pass(21);
        check.same("an answer, on the last day", answer.extend(0, 0, 1), 22);
        answer.pass(2);
        check.state("an answer, a day behind it", answer, () -> answer.extend(0, 0, 60));
        Courtdocket response = Scene.moved();
        response.pass(14);
        check.same("a RESPONSE, on the last day", response.extend(1, 1, 1), 15);
        response.pass(2);
        check.state("a RESPONSE, a day behind it", response, () -> response.extend(1, 1, 60));
        Courtdocket appeal = Scene.won(600);
        appeal.pass(30);
        check.same("an APPEAL, on the last day", appeal.extend(2, 0, 1), 31);
        appeal.pass(2);
        check.state("an APPEAL, a day behind it", appeal, () -> appeal.extend(2, 0, 60));
        Courtdocket cure = Scene.answered();
        cure.defect(1);
        check.index("a cure", cure, () -> cure.extend(3, 1, 1));
    }

    @Says(at = "Deadlines",
        value = "The court can extend a deadline of the first three sorts, as long as today is not behind it, and it "
            + "is not NONE")
    static void extendNoneThatIsNone(Check check) {
        Courtdocket claimed = Scene.claimed();
        check.state("not served", claimed, () -> claimed.extend(0, 0, 1));
        check.state("not WON", claimed, () -> claimed.extend(2, 0, 1));
        Courtdocket moved = Scene.moved();
        check.state("a MOTION is open", moved, () -> moved.extend(0, 0, 1));
        Courtdocket stayed = Scene.moved();
        stayed.stay(0, true);
        check.state("stayed", stayed, () -> stayed.extend(1, 1, 1));
        Courtdocket appealed = Scene.appealed(5);
        check.state("APPEALED", appealed, () -> appealed.extend(2, 0, 1));
    }

    @Says(at = "Deadlines",
        value = "by some days, working ones if those of its rule are: they are added to its number of days, and are "
            + "gone when it begins anew")
    static void extendByDaysOfTheRule(Check check) {
        Courtdocket days = served(0, 4, false);
        check.same("4 and 1 days", days.extend(0, 0, 1), 7);
        check.same("4 and 1 and 3 days", days.extend(0, 0, 3), 8);
        Courtdocket working = served(0, 4, true);
        check.same("4 and 1 working days", working.extend(0, 0, 1), 7);
        check.same("4 and 1 and 3 working days", working.extend(0, 0, 3), 10);
        Courtdocket more = served(0, 60, false);
        check.same("60 and 60 days", more.extend(0, 0, 60), 120);
        check.same("and 60 more", more.extend(0, 0, 60), 182);
        Courtdocket stayed = served(0, 4, false);
        stayed.extend(0, 0, 4);
        stayed.pass(8);
        stayed.stay(0, true);
        stayed.pass(1);
        stayed.stay(0, false);
        due(check, "the last day that was added is stayed", stayed, 0, 0, 9);
    }

    @Says(at = "Deadlines",
        value = "by some days, working ones if those of its rule are: they are added to its number of days, and are "
            + "gone when it begins anew")
    static void whatWasAddedIsGoneWhenItBeginsAnew(Check check) {
        Courtdocket court = Scene.served();
        court.extend(0, 0, 9);
        court.motion(0);
        court.respond(1);
        court.ruling(1, 500);
        due(check, "by the RULING", court, 0, 0, 14);
        court.extend(0, 0, 9);
        due(check, "added", court, 0, 0, 23);
        court.vacate(0);
        due(check, "by the VACATE", court, 0, 0, 14);
        court.answer(0);
        court.judge(0, 100);
        court.extend(2, 0, 9);
        due(check, "added for an APPEAL", court, 2, 0, 39);
        court.appeal(0);
        court.decide(0, 0, 0);
        due(check, "by the DECISION", court, 2, 0, 30);
        court.extend(2, 0, 9);
        court.appeal(0);
        court.decide(0, 2, 100);
        court.judge(0, 100);
        due(check, "by the JUDGEMENT", court, 2, 0, 30);
    }

    @Says(at = "Deadlines",
        value = "by some days, working ones if those of its rule are: they are added to its number of days, and are "
            + "gone when it begins anew")
    static void whatWasAddedStaysUntilThen(Check check) {
        Courtdocket court = Scene.claims(2);
        court.serve(0, 0);
        court.serve(1, 0);
        court.extend(0, 0, 7);
        due(check, "another claim", court, 0, 1, 21);
        court.motion(0);
        court.extend(1, 2, 7);
        court.defect(2);
        court.pass(8);
        due(check, "the MOTION counts no more", court, 0, 0, 28);
        due(check, "its RESPONSE", court, 1, 2, 21);
        court.setRule(0, 1, true);
        due(check, "a later rule", court, 0, 0, 28);
        court.motion(0);
        due(check, "a second MOTION", court, 1, 3, 22);
    }
}
