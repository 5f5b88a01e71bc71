/** Promises 21, 24, 50 and 51: stay, extend, due, dueByDays. */
public final class DeadlinesTest {
    private static final Check CHECK = new Check("DeadlinesTest");

    private DeadlinesTest() {
    }

    public static void main(String[] args) {
        range();
        forAnswer();
        forAppeal();
        free();
        stay();
        stayedDays();
        stayOfOneDay();
        leader();
        lastDay();
        extend();
        extendWorking();
        extendEnds();
        CHECK.end();
    }

    /** The deadline by both ways of asking. */
    private static void due(String what, Courtdocket court, int sort, int number, int due) {
        CHECK.same(what + ": due", court.due(sort, number), due);
        CHECK.same(what + ": dueByDays", court.dueByDays(sort, number), due);
    }

    private static void range() {
        Courtdocket court = Scene.moved();
        for (int sort : new int[] {-1, 4, Integer.MAX_VALUE}) {
            CHECK.index("due of sort " + sort, court, () -> court.due(sort, 0));
            CHECK.index("dueByDays of sort " + sort, court, () -> court.dueByDays(sort, 0));
        }
        int[][] wrong = {{0, 1}, {0, -1}, {1, 0}, {1, 2}, {1, -1}, {2, 1}, {2, -1}, {3, 2}, {3, -1}};
        for (int[] pair : wrong) {
            CHECK.index("due of " + pair[0] + ", " + pair[1], court, () -> court.due(pair[0], pair[1]));
            CHECK.index("dueByDays of " + pair[0] + ", " + pair[1], court, () -> court.dueByDays(pair[0], pair[1]));
        }
        due("no defect", court, 3, 0, -1);
        due("no defect of the MOTION", court, 3, 1, -1);
        due("for a RESPONSE", court, 1, 1, 14);
        court.stay(0, true);
        due("of a STAY", court, 3, 2, -1);
    }

    private static void forAnswer() {
        Courtdocket court = Scene.claimed();
        due("not served", court, 0, 0, -1);
        court.pass(2);
        court.serve(0, 1);
        due("served", court, 0, 0, 28);
        court.pass(10);
        court.motion(0);
        due("a MOTION is open", court, 0, 0, -1);
        court.respond(1);
        court.pass(3);
        court.ruling(1, 0);
        due("granted: from the SERVE", court, 0, 0, 28);
        court.pass(1);
        court.vacate(0);
        due("from the VACATE", court, 0, 0, 30);
        court.motion(0);
        court.respond(5);
        court.pass(5);
        court.ruling(5, 10);
        due("from the RULING in part", court, 0, 0, 35);
        court.answer(0);
        due("answered", court, 0, 0, 35);
        court.judge(0, 5);
        court.pass(1);
        court.vacate(0);
        due("a VACATE of a JUDGEMENT does not begin it", court, 0, 0, 35);
        court.vacate(0);
        due("that of the RULING does", court, 0, 0, 36);
        court.settle(0);
        due("SETTLED", court, 0, 0, 36);
        due("for a RESPONSE, long given", court, 1, 1, 28);
    }

    private static void forAppeal() {
        Courtdocket court = Scene.answered();
        due("PENDING", court, 2, 0, -1);
        court.pass(1);
        court.judge(0, 10);
        due("WON", court, 2, 0, 31);
        court.appeal(0);
        due("APPEALED", court, 2, 0, -1);
        court.pass(9);
        court.decide(0, 0, 0);
        due("affirmed", court, 2, 0, 42);
        court.settle(0);
        due("SETTLED", court, 2, 0, -1);
    }

    private static void free() {
        Courtdocket court = Scene.opened();
        court.claim(0, 0, 1, 9);
        court.setRule(0, 5, false);
        court.serve(0, 0);
        due("5 is free", court, 0, 0, 7);
        court.holiday(7);
        court.holiday(8);
        due("7 and 8 are, too", court, 0, 0, 9);
        court.claim(0, 0, 1, 9);
        court.setRule(0, 5, true);
        court.serve(1, 0);
        due("5 working days", court, 0, 1, 9);
        court.holiday(3);
        due("4 working days till 9", court, 0, 1, 10);
        due("calendar days", court, 0, 0, 9);
    }

    private static void stay() {
        Courtdocket court = Scene.opened();
        CHECK.index("case 1", court, () -> court.stay(1, true));
        CHECK.index("case -1", court, () -> court.stay(-1, true));
        CHECK.state("not stayed", court, () -> court.stay(0, false));
        CHECK.same("STAY", court.stay(0, true), 0);
        CHECK.state("stayed", court, () -> court.stay(0, true));
        court.pass(3);
        CHECK.same("LIFT", court.stay(0, false), 1);
        CHECK.state("lifted", court, () -> court.stay(0, false));
        CHECK.same("STAY on that day", court.stay(0, true), 2);
        CHECK.same("the kind", court.entryAt(1, 0), 12);
        CHECK.same("the day", court.entryAt(1, 1), 3);
        CHECK.same("the case", court.entryAt(1, 2), 0);
        court.open(0);
        court.lead(1, 0);
        CHECK.state("one that is led is not stayed itself", court, () -> court.stay(1, false));
        CHECK.same("so it can be", court.stay(1, true), 3);
    }

    private static void stayedDays() {
        Courtdocket court = Scene.opened();
        court.claim(0, 0, 1, 9);
        court.claim(0, 0, 2, 9);
        court.setRule(0, 8, false);
        court.serve(0, 0);
        court.setRule(0, 8, true);
        court.serve(1, 0);
        due("8 days", court, 0, 0, 8);
        court.pass(3);
        court.stay(0, true);
        due("stayed without an end", court, 0, 0, -1);
        court.pass(7);
        due("still", court, 0, 0, -1);
        court.stay(0, false);
        due("1 and 2, 10 to 15", court, 0, 0, 15);
        due("1 and 2, 10 and 11, 14 to 17", court, 0, 1, 17);
        court.pass(5);
        court.stay(0, true);
        due("the last day is stayed", court, 0, 0, -1);
        court.pass(4);
        court.stay(0, false);
        due("10 to 14, and 19, which is free", court, 0, 0, 21);
        due("14, then 21 to 23", court, 0, 1, 23);
        Courtdocket ended = Scene.served();
        ended.pass(22);
        ended.stay(0, true);
        due("a stay behind the end", ended, 0, 0, 21);
    }

    /** What rolls on from a free day passes stayed days, too. */
    private static void stayOfOneDay() {
        Courtdocket court = Scene.claimed();
        court.setRule(0, 5, false);
        court.serve(0, 0);
        due("5 and 6 are free", court, 0, 0, 7);
        court.pass(7);
        court.stay(0, true);
        court.pass(1);
        court.stay(0, false);
        due("7 is stayed", court, 0, 0, 8);
        court.stay(0, true);
        court.stay(0, false);
        due("stayed and lifted on a day is not stayed", court, 0, 0, 8);
        court.stay(0, true);
        due("8 is stayed", court, 0, 0, -1);
    }

    private static void leader() {
        Courtdocket court = Scene.served();
        court.open(1);
        court.stay(1, true);
        court.pass(4);
        court.stay(1, false);
        due("by itself", court, 0, 0, 21);
        court.lead(0, 1);
        due("with the days on which its leader was stayed", court, 0, 0, 24);
        court.stay(0, true);
        court.pass(2);
        court.stay(0, false);
        due("and its own", court, 0, 0, 28);
        court.lead(0, -1);
        due("without them", court, 0, 0, 23);
        court.stay(1, true);
        court.lead(0, 1);
        due("a leader that is stayed", court, 0, 0, -1);
        court.sever(0);
        due("severed: led by none, and not stayed", court, 0, 0, 21);
    }

    private static void lastDay() {
        Courtdocket court = Scene.claimed();
        Scene.pass(court, 900);
        court.setRule(0, 60, false);
        court.serve(0, 0);
        due("60 days", court, 0, 0, 960);
        for (int i = 0; i < 7; i++) {
            court.extend(0, 0, 60);
        }
        due("480 days", court, 0, 0, 1380);
        CHECK.same("497 days", court.extend(0, 0, 17), 1397);
        CHECK.same("498 days, over free ones", court.extend(0, 0, 1), 1400);
        CHECK.same("500 days", court.extend(0, 0, 2), 1400);
        due("the last day that can be", court, 0, 0, 1400);
        CHECK.same("501 days", court.extend(0, 0, 1), -1);
        due("NONE", court, 0, 0, -1);
        CHECK.state("no more", court, () -> court.extend(0, 0, 1));
        CHECK.same("never behind it", court.answer(0), 1);
    }

    private static void extend() {
        Courtdocket court = Scene.claimed();
        CHECK.index("sort -1", court, () -> court.extend(-1, 0, 1));
        CHECK.index("sort 3", court, () -> court.extend(3, 0, 0));
        CHECK.index("claim 1", court, () -> court.extend(0, 1, 1));
        CHECK.index("claim -1 for an APPEAL", court, () -> court.extend(2, -1, 1));
        CHECK.index("no entry", court, () -> court.extend(1, 0, 1));
        CHECK.argument("days 0", court, () -> court.extend(0, 0, 0));
        CHECK.argument("days 61", court, () -> court.extend(0, 0, 61));
        CHECK.state("not served", court, () -> court.extend(0, 0, 1));
        court.serve(0, 0);
        CHECK.index("a SERVE is no MOTION", court, () -> court.extend(1, 0, 1));
        CHECK.index("a SERVE has no cure", court, () -> court.extend(3, 0, 1));
        CHECK.same("by 1", court.extend(0, 0, 1), 22);
        CHECK.same("by 2 more", court.extend(0, 0, 2), 24);
        court.pass(24);
        CHECK.same("on the last day", court.extend(0, 0, 4), 28);
        court.motion(0);
        CHECK.state("a MOTION is open", court, () -> court.extend(0, 0, 1));
        CHECK.same("for a RESPONSE", court.extend(1, 1, 10), 49);
        court.respond(1);
        court.ruling(1, -1);
        due("begun anew: without what was added", court, 0, 0, 38);
        court.answer(0);
        CHECK.same("answered, not behind it", court.extend(0, 0, 4), 42);
        CHECK.state("for an APPEAL, not WON", court, () -> court.extend(2, 0, 4));
        court.judge(0, 10);
        CHECK.same("for an APPEAL", court.extend(2, 0, 5), 59);
        court.appeal(0);
        court.decide(0, 0, 0);
        due("begun anew by the DECISION", court, 2, 0, 56);
        court.pass(33);
        CHECK.state("behind it", court, () -> court.extend(2, 0, 60));
        CHECK.same("and no entry of it", court.entries(), 8);
    }

    private static void extendWorking() {
        Courtdocket court = Scene.claimed();
        court.setRule(0, 5, true);
        court.serve(0, 1);
        due("5 and 3 working days", court, 0, 0, 10);
        CHECK.same("3 working days more", court.extend(0, 0, 3), 15);
        court.setRule(0, 5, false);
        CHECK.same("as its rule was", court.extend(0, 0, 5), 22);
    }

    /** What was added is not lost by a MOTION that lapses: the deadline does not begin anew. */
    private static void extendEnds() {
        Courtdocket court = Scene.served();
        court.extend(0, 0, 7);
        court.motion(0);
        court.defect(1);
        court.pass(8);
        due("still added", court, 0, 0, 28);
        court.pass(21);
        CHECK.state("behind it", court, () -> court.extend(0, 0, 1));
    }
}
