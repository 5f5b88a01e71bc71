/** What stands under "The docket" of SETTLE, PAY, STAY and LIFT, and of the balance. */
public final class TermsPaymentsTest {
    private static final int PENDING = Courtdocket.PENDING, WON = Courtdocket.WON, APPEALED = Courtdocket.APPEALED,
        SETTLED = Courtdocket.SETTLED, PAID = Courtdocket.PAID;

    private TermsPaymentsTest() {
    }

    public static void main(String[] args) {
        Sentences.run(TermsPaymentsTest.class);
    }

    private static void is(Check check, String what, Courtdocket court, int state) {
        check.same(what + ": state", court.stateOf(0), state);
        check.same(what + ": state by docket", court.stateByDocket(0), state);
    }

    @Says(at = "The docket", value = "SETTLE: of a claim that is PENDING, WON or APPEALED: it is SETTLED.")
    static void settleInThreeStates(Check check) {
        for (int state = 0; state < 6; state++) {
            Courtdocket court = Scene.inState(state);
            if (state == PENDING || state == WON || state == APPEALED) {
                int entries = court.entries();
                check.same("in the state " + state, court.settle(0), entries);
                is(check, "settled", court, SETTLED);
                check.same("no balance", court.balance(0), 0);
            } else {
                check.state("in the state " + state, court, () -> court.settle(0));
                is(check, "refused", court, state);
            }
        }
        Courtdocket claimed = Scene.claimed();
        check.same("not served, the first entry", claimed.settle(0), 0);
        is(check, "not served, the first entry", claimed, SETTLED);
        Courtdocket moved = Scene.moved();
        check.same("with a MOTION that is open", moved.settle(0), 2);
        Courtdocket paid = Scene.won(600);
        paid.pay(0, 599);
        check.same("with something paid", paid.settle(0), 4);
        is(check, "with something paid", paid, SETTLED);
    }

    @Says(at = "The docket", value = "PAY: of a claim that is WON, up to its balance; with nothing left it is PAID.")
    static void payOnAWonClaim(Check check) {
        for (int state = 0; state < 6; state++) {
            Courtdocket court = Scene.inState(state);
            if (state == WON) {
                check.same("WON", court.pay(0, 1), 599);
            } else {
                check.state("in the state " + state, court, () -> court.pay(0, 1));
            }
        }
    }

    @Says(at = "The docket", value = "PAY: of a claim that is WON, up to its balance; with nothing left it is PAID.")
    static void payUpToTheBalance(Check check) {
        Courtdocket all = Scene.won(600);
        check.same("all", all.pay(0, 600), 0);
        is(check, "all", all, PAID);
        Courtdocket most = Scene.won(600);
        check.same("all but 1", most.pay(0, 599), 1);
        is(check, "all but 1", most, WON);
        check.state("2", most, () -> most.pay(0, 2));
        check.same("the last 1", most.pay(0, 1), 0);
        is(check, "the last 1", most, PAID);
        Courtdocket above = Scene.won(600);
        check.state("1 above", above, () -> above.pay(0, 601));
        check.same("nothing was paid", above.balance(0), 600);
        check.same("nothing was entered", above.entries(), 3);
        Courtdocket least = Scene.won(1);
        check.same("1 of 1", least.pay(0, 1), 0);
        is(check, "1 of 1", least, PAID);
    }

    @Says(at = "The docket", value = "PAY: of a claim that is WON, up to its balance; with nothing left it is PAID.")
    static void payWithInterest(Check check) {
        Courtdocket court = Scene.won(600);
        court.pass(30);
        check.state("1 above", court, () -> court.pay(0, 607));
        check.same("all but the interest", court.pay(0, 600), 6);
        is(check, "all but the interest", court, WON);
        check.same("the interest", court.pay(0, 6), 0);
        is(check, "the interest", court, PAID);
        Courtdocket later = Scene.answered();
        later.pass(10);
        later.judge(0, 1000);
        later.pass(29);
        check.same("29 days since the JUDGEMENT, 39 in all", later.pay(0, 1000), 0);
        is(check, "29 days since the JUDGEMENT", later, PAID);
        Courtdocket month = Scene.answered();
        month.pass(10);
        month.judge(0, 1000);
        month.pass(30);
        check.same("30 days since the JUDGEMENT", month.pay(0, 1000), 10);
        is(check, "30 days since the JUDGEMENT", month, WON);
        check.same("the interest of that", month.pay(0, 10), 0);
        is(check, "30 days since the JUDGEMENT, with interest", month, PAID);
    }

    @Says(at = "The docket", value = "PAY: of a claim that is WON, up to its balance; with nothing left it is PAID.")
    static void payOnOneOfTwoClaims(Check check) {
        Courtdocket two = Scene.claims(2);
        for (int claim = 0; claim < 2; claim++) {
            two.serve(claim, 0);
            two.answer(claim);
            two.judge(claim, 100);
        }
        two.pay(1, 100);
        is(check, "another claim is PAID", two, WON);
        check.same("and this one is not", two.balance(0), 100);
        check.same("that one by docket, behind entries of this one", two.stateByDocket(1), PAID);
        two.pay(0, 60);
        is(check, "something is paid", two, WON);
        check.same("not on that one", two.stateByDocket(1), PAID);
    }

    @Says(at = "The docket",
        value = "The balance of a claim that is WON is its amount, and that times the number of whole 30 days since "
            + "its last JUDGEMENT, divided by 100, together, less what was paid; 0 for others.")
    static void balanceOfWholeMonths(Check check) {
        int[][] due = {{0, 700}, {1, 700}, {29, 700}, {30, 707}, {31, 707}, {59, 707}, {60, 714}, {89, 714}, {90, 721},
            {899, 903}, {900, 910}};
        for (int[] pair : due) {
            Courtdocket court = Scene.won(700);
            Scene.pass(court, pair[0]);
            check.same("on the day " + pair[0], court.balance(0), pair[1]);
        }
        Courtdocket most = Scene.opened();
        most.claim(0, 0, 1, 99999);
        most.serve(0, 0);
        most.answer(0);
        most.judge(0, 99999);
        Scene.pass(most, 900);
        check.same("the greatest", most.balance(0), 129998);
        check.state("1 above the greatest", most, () -> most.pay(0, 129999));
        check.same("all of it", most.pay(0, 129998), 0);
        is(check, "the greatest", most, PAID);
    }

    @Says(at = "The docket",
        value = "The balance of a claim that is WON is its amount, and that times the number of whole 30 days since "
            + "its last JUDGEMENT, divided by 100, together, less what was paid; 0 for others.")
    static void balanceSinceTheLastJudgement(Check check) {
        Courtdocket vacated = Scene.answered();
        vacated.judge(0, 1000);
        vacated.pass(20);
        vacated.vacate(0);
        vacated.judge(0, 1000);
        vacated.pass(29);
        check.same("29 days since the second", vacated.balance(0), 1000);
        vacated.pass(1);
        check.same("30 days since the second", vacated.balance(0), 1010);
        Courtdocket affirmed = Scene.appealed(1000);
        affirmed.pass(29);
        affirmed.decide(0, 0, 0);
        check.same("affirmed, on the day 29", affirmed.balance(0), 1000);
        affirmed.pass(1);
        check.same("on the day 30", affirmed.balance(0), 1010);
        Courtdocket back = Scene.appealed(1000);
        back.pass(30);
        back.decide(0, 2, 500);
        back.judge(0, 500);
        check.same("sent back and judged anew", back.balance(0), 500);
        back.pass(30);
        check.same("30 days since that", back.balance(0), 505);
    }

    @Says(at = "The docket",
        value = "The balance of a claim that is WON is its amount, and that times the number of whole 30 days since "
            + "its last JUDGEMENT, divided by 100, together, less what was paid; 0 for others.")
    static void balanceLessWhatWasPaid(Check check) {
        Courtdocket court = Scene.won(1000);
        court.pay(0, 990);
        check.same("10 are left", court.balance(0), 10);
        court.pass(30);
        check.same("interest on the whole amount", court.balance(0), 20);
        court.pay(0, 19);
        check.same("1 is left", court.balance(0), 1);
        court.pass(30);
        check.same("and more comes", court.balance(0), 11);
    }

    @Says(at = "The docket",
        value = "The balance of a claim that is WON is its amount, and that times the number of whole 30 days since "
            + "its last JUDGEMENT, divided by 100, together, less what was paid; 0 for others.")
    static void balanceOfOthersIs0(Check check) {
        for (int state = 0; state < 6; state++) {
            Courtdocket court = Scene.inState(state);
            check.same("in the state " + state, court.balance(0), state == WON ? 600 : 0);
            court.pass(60);
            check.same("60 days later in the state " + state, court.balance(0), state == WON ? 612 : 0);
        }
        Courtdocket paid = Scene.won(600);
        paid.pay(0, 100);
        paid.settle(0);
        check.same("SETTLED, with something paid", paid.balance(0), 0);
        check.same("no JUDGEMENT", Scene.claimed().balance(0), 0);
    }

    /** The claim 0, served on the day 0, with 10 days for an answer. */
    private static Courtdocket tenDays() {
        Courtdocket court = Scene.claimed();
        court.setRule(0, 10, false);
        court.serve(0, 0);
        return court;
    }

    private static void due(Check check, String what, Courtdocket court, int due) {
        check.same(what + ": due", court.due(0, 0), due);
        check.same(what + ": dueByDays", court.dueByDays(0, 0), due);
    }

    /** A stay from one day up to the day ahead of another one. */
    private static Courtdocket stayed(int from, int to) {
        Courtdocket court = tenDays();
        if (from > 0) {
            court.pass(from);
        }
        court.stay(0, true);
        if (to > from) {
            court.pass(to - from);
        }
        court.stay(0, false);
        return court;
    }

    @Says(at = "The docket",
        value = "STAY and LIFT, by the court: a case is stayed from the day of the STAY on, that day with it, up to "
            + "the day ahead of that of the LIFT.")
    static void stayedDays(Check check) {
        due(check, "not stayed", tenDays(), 10);
        due(check, "on the day of the SERVE, which does not count", stayed(0, 1), 10);
        due(check, "on the first day that counts", stayed(1, 2), 11);
        due(check, "on no day", stayed(3, 3), 10);
        due(check, "on one day", stayed(3, 4), 11);
        due(check, "on the days 2 to 5", stayed(2, 6), 14);
        due(check, "on the last day", stayed(10, 11), 11);
        due(check, "on the day ahead of the last one", stayed(9, 10), 11);
        due(check, "from the last day on", stayed(10, 14), 14);
        due(check, "on the day behind the last one", stayed(11, 12), 10);
        Courtdocket twice = stayed(3, 4);
        twice.stay(0, true);
        twice.pass(1);
        twice.stay(0, false);
        due(check, "on 3, and again on 4", twice, 14);
    }

    @Says(at = "The docket",
        value = "STAY and LIFT, by the court: a case is stayed from the day of the STAY on, that day with it, up to "
            + "the day ahead of that of the LIFT.")
    static void aStayWithoutALift(Check check) {
        Courtdocket last = tenDays();
        last.pass(10);
        last.stay(0, true);
        due(check, "from the last day on", last, -1);
        Courtdocket behind = tenDays();
        behind.pass(11);
        behind.stay(0, true);
        due(check, "from the day behind the last one on", behind, 10);
        Courtdocket other = tenDays();
        other.open(1);
        other.stay(1, true);
        due(check, "another case", other, 10);
    }
}
