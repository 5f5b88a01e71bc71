/** Promises 1 to 4, and 40: a new object, pass, holiday, setRule, today. */
public final class DaysTest {
    private static final Check CHECK = new Check("DaysTest");

    private DaysTest() {
    }

    public static void main(String[] args) {
        newObject();
        pass();
        holiday();
        holidayMovesDeadlines();
        setRule();
        rulesInForce();
        CHECK.end();
    }

    private static void newObject() {
        Courtdocket court = new Courtdocket();
        CHECK.same("new: today", court.today(), 0);
        CHECK.same("new: entries", court.entries(), 0);
        CHECK.index("new: no case", court, () -> court.join(0, 0, 0));
        CHECK.index("new: no claim", court, () -> court.stateOf(0));
        CHECK.index("new: no entry", court, () -> court.counts(0));
        CHECK.index("new: no hearing", court, () -> court.hearingAt(0));
        CHECK.index("new: no exhibit", court, () -> court.isAdmitted(0));
        int[] days = {21, 14, 30, 14, 5};
        for (int rule = 0; rule < 5; rule++) {
            CHECK.same("new: rule " + rule, court.setRule(rule, 1, false), days[rule]);
        }
        CHECK.same("new: 1 is no holiday", new Courtdocket().holiday(1), true);
    }

    private static void pass() {
        Courtdocket court = new Courtdocket();
        for (int days : new int[] {0, 61, -1, Integer.MAX_VALUE, Integer.MIN_VALUE}) {
            CHECK.argument("pass " + days, court, () -> court.pass(days));
        }
        CHECK.same("pass 1", court.pass(1), 1);
        CHECK.same("pass 60", court.pass(60), 61);
        CHECK.same("today", court.today(), 61);
        Scene.pass(court, 900 - 61 - 10);
        CHECK.state("pass above 900", court, () -> court.pass(11));
        CHECK.argument("range ahead of the state", court, () -> court.pass(61));
        CHECK.same("nothing passed", court.today(), 890);
        CHECK.same("pass to 900", court.pass(10), 900);
        CHECK.state("pass behind 900", court, () -> court.pass(1));
    }

    private static void holiday() {
        Courtdocket court = new Courtdocket();
        CHECK.argument("holiday -1", court, () -> court.holiday(-1));
        CHECK.argument("holiday 1001", court, () -> court.holiday(1001));
        CHECK.argument("holiday MIN", court, () -> court.holiday(Integer.MIN_VALUE));
        CHECK.state("holiday today", court, () -> court.holiday(0));
        CHECK.same("a working day", court.holiday(1), true);
        CHECK.state("a holiday", court, () -> court.holiday(1));
        CHECK.same("5 was free", court.holiday(5), false);
        CHECK.same("6 was free", court.holiday(6), false);
        CHECK.state("5 is a holiday now", court, () -> court.holiday(5));
        CHECK.same("7 was not free", court.holiday(7), true);
        CHECK.same("1000 was free", court.holiday(1000), false);
        court.pass(10);
        CHECK.state("behind us", court, () -> court.holiday(9));
        CHECK.state("today 10", court, () -> court.holiday(10));
        for (int day = 11; day < 11 + 25; day++) {
            CHECK.same("holiday " + day, court.holiday(day), day % 7 < 5);
        }
        CHECK.state("there are 30", court, () -> court.holiday(100));
        CHECK.argument("range ahead of the state", court, () -> court.holiday(1001));
    }

    private static void holidayMovesDeadlines() {
        Courtdocket court = Scene.served();
        CHECK.same("due on 21", court.due(0, 0), 21);
        court.holiday(21);
        CHECK.same("rolls to 22", court.due(0, 0), 22);
        court.holiday(20);
        CHECK.same("calendar days go on", court.due(0, 0), 22);
        court.setRule(2, 3, true);
        court.holiday(2);
        court.answer(0);
        court.judge(0, 5);
        CHECK.same("working days 1, 3 and 4", court.due(2, 0), 4);
        CHECK.same("by days too", court.dueByDays(2, 0), 4);
    }

    private static void setRule() {
        Courtdocket court = new Courtdocket();
        CHECK.index("rule -1", court, () -> court.setRule(-1, 5, true));
        CHECK.index("rule 5", court, () -> court.setRule(5, 0, true));
        CHECK.argument("days 0", court, () -> court.setRule(0, 0, true));
        CHECK.argument("days 61", court, () -> court.setRule(0, 61, false));
        CHECK.same("days before", court.setRule(0, 60, false), 21);
        CHECK.same("days before then", court.setRule(0, 1, true), 60);
        CHECK.same("rule 4", court.setRule(4, 1, true), 5);
    }

    private static void rulesInForce() {
        Courtdocket court = Scene.opened();
        court.claim(0, 0, 1, 1000);
        court.claim(0, 0, 2, 1000);
        court.serve(0, 0);
        court.setRule(0, 10, true);
        court.serve(1, 0);
        CHECK.same("the rule of the SERVE", court.due(0, 0), 21);
        CHECK.same("the later rule, working days", court.due(0, 1), 14);
        court.motion(0);
        court.setRule(1, 2, false);
        CHECK.same("the rule of the MOTION", court.due(1, 2), 14);
        court.motion(1);
        CHECK.same("the later one", court.due(1, 3), 2);
        court.respond(2);
        court.setRule(3, 3, false);
        court.ruling(2, -1);
        court.setRule(3, 4, false);
        CHECK.same("the rule of the RULING", court.due(0, 0), 3);
        court.answer(0);
        court.judge(0, 10);
        court.setRule(2, 1, false);
        CHECK.same("the rule of the JUDGEMENT", court.due(2, 0), 30);
        court.appeal(0);
        court.decide(0, 0, 0);
        CHECK.same("the rule of the DECISION", court.due(2, 0), 1);
        court.defect(2);
        court.setRule(4, 2, false);
        CHECK.same("the rule of the defect", court.due(3, 2), 7);
        court.defect(4);
        CHECK.same("the later one", court.due(3, 4), 2);
        CHECK.same("setRule tells the days of 4", court.setRule(4, 9, true), 2);
    }
}
