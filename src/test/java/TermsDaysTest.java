/** What stands ahead of the terms, under "Terms", and under "Days". */
public final class TermsDaysTest {
    private TermsDaysTest() {
    }

    public static void main(String[] args) {
        Sentences.run(TermsDaysTest.class);
    }

    @Says(at = "What it is",
        value = "An object is used for at most 512 calls after it has been made; what later calls answer is free.")
    static void the512thCallIsAnswered(Check check) {
        Courtdocket court = Scene.served();
        int calls = 6;
        boolean isSealed = true;
        while (calls < 510) {
            check.same("seal at the call " + calls, court.seal(0, isSealed), true);
            isSealed = !isSealed;
            calls++;
        }
        check.same("the 511th call", court.seal(0, true), true);
        check.same("the 512th call", court.maySee(0, 9, 0), false);
    }

    @Says(at = "Terms", value = "states, deadlines, views, balances, seats and chains are asked, which changes nothing")
    static void whatIsAskedChangesNothing(Check check) {
        Courtdocket court = Scene.moved();
        court.defect(1);
        court.seal(1, true);
        court.exhibit(0, 3);
        court.hearing(0, 4, 1);
        court.certify(0);
        court.extend(1, 1, 3);
        court.pass(30);
        String before = Inside.of(court);
        court.today();
        court.entries();
        court.counts(1);
        court.stateOf(0);
        court.stateByDocket(0);
        court.amountOf(0);
        court.balance(0);
        court.caseOf(0);
        court.isAnswered(0);
        court.hearingAt(0);
        court.isAdmitted(0);
        court.share(0, 0);
        court.maySee(1, 9, 30);
        court.maySee(1, 9, 0);
        for (int number = 0; number < 2; number++) {
            court.due(2 * number, 0);
            court.due(2 * number + 1, 1);
            court.dueByDays(2 * number, 0);
            court.dueByDays(2 * number + 1, 1);
        }
        for (int part = 0; part < 5; part++) {
            court.entryAt(1, part);
        }
        for (int seat = 0; seat < 7; seat++) {
            court.seat(0, seat);
        }
        check.same("the same inside", Inside.of(court).equals(before), true);
    }

    @Says(at = "Terms", value = "All divisions are rounded down.")
    static void divisionsAreRoundedDown(Check check) {
        int[][] interest = {{99, 99}, {100, 101}, {101, 102}, {199, 200}, {200, 202}, {1, 1}};
        for (int[] pair : interest) {
            Courtdocket court = Scene.won(pair[0]);
            court.pass(30);
            check.same("1 in 100 of " + pair[0], court.balance(0), pair[1]);
        }
        int[][] shares = {{1, 0}, {2, 0}, {3, 1}, {4, 1}, {5, 1}, {6, 2}};
        for (int[] pair : shares) {
            Courtdocket court = Scene.served();
            court.certify(0);
            court.member(0, 8, true);
            court.member(0, 9, true);
            court.answer(0);
            court.judge(0, 10);
            court.pay(0, pair[0]);
            check.same("a third of " + pair[0], court.share(0, 8), pair[1]);
        }
    }

    @Says(at = "Days", value = "Today is the day 0 at first, and at most 900.")
    static void todayIs0AtFirst(Check check) {
        Courtdocket court = new Courtdocket();
        check.same("at first", court.today(), 0);
        check.state("0 is today: no holiday", court, () -> court.holiday(0));
        check.same("1 is behind it", court.holiday(1), true);
    }

    @Says(at = "Days", value = "Today is the day 0 at first, and at most 900.")
    static void todayIsAtMost900(Check check) {
        check.same("899", Scene.at(898).pass(1), 899);
        check.same("900", Scene.at(899).pass(1), 900);
        check.same("900 by 60", Scene.at(840).pass(60), 900);
        Courtdocket day899 = Scene.at(899);
        check.state("901 from 899", day899, () -> day899.pass(2));
        Courtdocket day900 = Scene.at(900);
        check.state("901 from 900", day900, () -> day900.pass(1));
        Courtdocket day841 = Scene.at(841);
        check.state("901 from 841", day841, () -> day841.pass(60));
        check.same("today then", day841.today(), 841);
    }

    @Says(at = "Days", value = "A day is free if it is 5 or 6 modulo 7")
    static void freeDaysOfHolidays(Check check) {
        for (int day = 1; day <= 1000; day++) {
            check.same("the day " + day, new Courtdocket().holiday(day), day % 7 != 5 && day % 7 != 6);
        }
    }

    @Says(at = "Days", value = "A day is free if it is 5 or 6 modulo 7")
    static void freeDaysOfHearings(Check check) {
        Courtdocket court = Scene.cases(1);
        int[] working = {1, 2, 3, 4, 7, 11, 14, 18, 984, 987, 988, 990};
        for (int day : working) {
            check.same("on " + day, court.hearingAt(court.hearing(0, day, 0)), 10 * day);
        }
        int[] free = {5, 6, 12, 13, 19, 20, 978, 979, 985, 986};
        for (int day : free) {
            check.state("on " + day, court, () -> court.hearing(0, day, 0));
        }
    }

    @Says(at = "Days", value = "A day is free if it is 5 or 6 modulo 7")
    static void freeDaysOfDeadlines(Check check) {
        for (int days = 1; days <= 60; days++) {
            Courtdocket court = Scene.claimed();
            court.setRule(0, days, false);
            court.serve(0, 0);
            int due = days % 7 == 5 ? days + 2 : days % 7 == 6 ? days + 1 : days;
            check.same(days + " days", court.due(0, 0), due);
            Courtdocket working = Scene.claimed();
            working.setRule(0, days, true);
            working.serve(0, 0);
            // The day 0 does not count: 4 days are left in its week, and each later week has 5.
            int weeks = days <= 4 ? 0 : (days - 5) / 5 + 1;
            int inWeek = days <= 4 ? days : (days - 5) % 5;
            check.same(days + " working days", working.due(0, 0), 7 * weeks + inWeek);
        }
    }

    @Says(at = "Days", value = "or a holiday, of which there can be 30")
    static void holidaysAreFree(Check check) {
        Courtdocket court = Scene.served();
        check.same("21 is not free", court.due(0, 0), 21);
        court.holiday(20);
        check.same("the day ahead of it neither", court.due(0, 0), 21);
        court.holiday(21);
        check.same("21 is free", court.due(0, 0), 22);
        check.same("by days too", court.dueByDays(0, 0), 22);
        check.state("no hearing then", court, () -> court.hearing(0, 21, 0));
        check.same("one on 22", court.hearing(0, 22, 0), 0);
        court.holiday(22);
        check.same("the hearing stays", court.hearingAt(0), 220);
    }

    @Says(at = "Days", value = "or a holiday, of which there can be 30")
    static void thereCanBe30Holidays(Check check) {
        Courtdocket court = new Courtdocket();
        for (int day = 1; day <= 29; day++) {
            court.holiday(day);
        }
        check.same("the 30th, which was free anyhow", court.holiday(33), false);
        check.state("a 31st", court, () -> court.holiday(30));
        check.state("a 31st that is free anyhow", court, () -> court.holiday(34));
        Courtdocket other = new Courtdocket();
        for (int day = 1; day <= 29; day++) {
            other.holiday(1001 - day);
        }
        check.same("the 30th on a working day", other.holiday(30), true);
        check.state("a 31st behind 30", other, () -> other.holiday(31));
        Courtdocket served = Scene.claimed();
        served.setRule(0, 1, true);
        for (int day = 1; day <= 30; day++) {
            served.holiday(day);
        }
        served.serve(0, 0);
        check.same("30 of them in a row", served.due(0, 0), 31);
        check.same("30 of them in a row, day by day", served.dueByDays(0, 0), 31);
    }

    @Says(at = "Days", value = "only days behind today can become holidays")
    static void onlyDaysBehindTodayBecomeHolidays(Check check) {
        Courtdocket court = Scene.at(9);
        check.state("the day ahead of today", court, () -> court.holiday(8));
        check.state("the first day", court, () -> court.holiday(0));
        check.state("today", court, () -> court.holiday(9));
        check.same("the day behind today", court.holiday(10), true);
        court.pass(1);
        check.state("today, a holiday", court, () -> court.holiday(10));
        check.same("the day behind it", court.holiday(11), true);
    }
}
