/** Promises 16 to 24: vacate, appeal, decide, settle, pay, stay, defect, cure, extend. */
public final class Promises16Test {
    private Promises16Test() {
    }

    public static void main(String[] args) {
        Sentences.run(Promises16Test.class);
    }

    /** Two claims WON with 600: the entries 4 and 5. */
    private static Courtdocket won() {
        Courtdocket court = Scene.claims(2);
        court.serve(0, 0);
        court.serve(1, 0);
        court.answer(0);
        court.answer(1);
        court.judge(0, 600);
        court.judge(1, 600);
        return court;
    }

    private static Courtdocket won600() {
        return Scene.won(600);
    }

    private static Courtdocket appealed600() {
        return Scene.appealed(600);
    }

    // ---- vacate

    @Says(at = "Promise 16", value = "Returns the number of the entry.")
    static void p16ReturnsTheNumber(Check check) {
        Courtdocket court = won();
        check.same("the first", court.vacate(1), 6);
        check.same("the second", court.vacate(0), 7);
        check.same("what it vacates", court.entryAt(7, 3), 4);
    }

    @Says(at = "Promise 16", value = "Throws `IndexOutOfBoundsException` if there is no such claim")
    static void p16NoSuchClaim(Check check) {
        Courtdocket court = won();
        Limits.noSuch(check, "claim", court, 2, (on, claim) -> on.vacate(claim));
        check.same("the last one", court.vacate(1), 6);
    }

    @Says(at = "Promise 16", value = "Throws `IllegalStateException` if it is not possible, or there are 160 entries")
    static void p16NotPossible(Check check) {
        Courtdocket answered = Scene.answered();
        check.state("no order", answered, () -> answered.vacate(0));
        Courtdocket appealed = appealed600();
        check.state("an APPEAL", appealed, () -> appealed.vacate(0));
        Courtdocket vacated = won600();
        vacated.vacate(0);
        check.state("vacated", vacated, () -> vacated.vacate(0));
        Limits.atMost160Entries(check, Promises16Test::won600, on -> on.vacate(0));
    }

    // ---- appeal

    @Says(at = "Promise 17", value = "Returns the number of the entry.")
    static void p17ReturnsTheNumber(Check check) {
        Courtdocket court = won();
        check.same("the first", court.appeal(1), 6);
        check.same("the second", court.appeal(0), 7);
        check.same("its kind", court.entryAt(7, 0), Courtdocket.APPEAL);
    }

    @Says(at = "Promise 17", value = "Throws `IndexOutOfBoundsException` if there is no such claim")
    static void p17NoSuchClaim(Check check) {
        Courtdocket court = won();
        Limits.noSuch(check, "claim", court, 2, (on, claim) -> on.appeal(claim));
        check.same("the last one", court.appeal(1), 6);
    }

    @Says(at = "Promise 17", value = "Throws `IllegalStateException` if it is not possible, or there are 160 entries")
    static void p17NotPossible(Check check) {
        Courtdocket answered = Scene.answered();
        check.state("PENDING", answered, () -> answered.appeal(0));
        Courtdocket late = won600();
        late.pass(31);
        check.state("late", late, () -> late.appeal(0));
        Courtdocket paid = won600();
        paid.pay(0, 1);
        check.state("1 is paid", paid, () -> paid.appeal(0));
        Limits.atMost160Entries(check, Promises16Test::won600, on -> on.appeal(0));
    }

    // ---- decide

    @Says(at = "Promise 18", value = "`outcome`: 0 it affirms, 1 turns it round, 2 sends it back")
    static void p18Outcome(Check check) {
        int[] states = {Courtdocket.WON, Courtdocket.DISMISSED, Courtdocket.PENDING};
        for (int outcome = 0; outcome < 3; outcome++) {
            Courtdocket court = appealed600();
            court.decide(0, outcome, 5);
            check.same("state by " + outcome, court.stateOf(0), states[outcome]);
            check.same("state by docket by " + outcome, court.stateByDocket(0), states[outcome]);
            check.same("as told", court.entryAt(4, 3), outcome);
        }
    }

    @Says(at = "Promise 18", value = "`cap`: for 2: 0 to the amount of the claim; not looked at for others")
    static void p18Cap(Check check) {
        for (int cap : new int[] {0, 1, 599, 600}) {
            Courtdocket court = appealed600();
            check.same("a cap of " + cap, court.decide(0, 2, cap), 4);
            check.same("as told", court.entryAt(4, 4), cap);
        }
        for (int cap : new int[] {-1, 601, Integer.MIN_VALUE, Integer.MAX_VALUE}) {
            for (int outcome = 0; outcome < 2; outcome++) {
                Courtdocket court = appealed600();
                check.same("not looked at: " + cap, court.decide(0, outcome, cap), 4);
                check.same("not told", court.entryAt(4, 4), 0);
            }
        }
        Courtdocket affirmed = appealed600();
        affirmed.decide(0, 0, 5);
        affirmed.appeal(0);
        affirmed.decide(0, 2, 600);
        check.same("the cap of 600 alone counts", affirmed.judge(0, 600), 7);
    }

    @Says(at = "Promise 18", value = "Returns the number of the entry.")
    static void p18ReturnsTheNumber(Check check) {
        Courtdocket court = won();
        court.appeal(0);
        court.appeal(1);
        check.same("the first", court.decide(1, 1, 0), 8);
        check.same("the second", court.decide(0, 2, 0), 9);
    }

    @Says(at = "Promise 18", value = "Throws `IndexOutOfBoundsException` if there is no such claim")
    static void p18NoSuchClaim(Check check) {
        Courtdocket court = won();
        court.appeal(1);
        Limits.noSuch(check, "claim", court, 2, (on, claim) -> on.decide(claim, 0, 0));
        check.same("the last one", court.decide(1, 0, 0), 7);
    }

    @Says(at = "Promise 18", value = "Throws `IllegalArgumentException` if outcome, or cap for 2, is out of range")
    static void p18OutcomeOrCapOutOfRange(Check check) {
        Courtdocket court = appealed600();
        check.argument("outcome", court, 0, 2, outcome -> court.decide(0, outcome, 0));
        check.argument("cap", court, 0, 600, cap -> court.decide(0, 2, cap));
        Courtdocket answered = Scene.answered();
        check.argument("the cap of a PENDING one", answered, 0, 1000, cap -> answered.decide(0, 2, cap));
        check.same("APPEALED still", court.stateOf(0), Courtdocket.APPEALED);
    }

    @Says(at = "Promise 18", value = "Throws `IllegalStateException` if it is not possible, or there are 160 entries")
    static void p18NotPossible(Check check) {
        Courtdocket court = won600();
        for (int outcome = 0; outcome < 3; outcome++) {
            int told = outcome;
            check.state("WON, not APPEALED", court, () -> court.decide(0, told, 0));
            Limits.atMost160Entries(check, Promises16Test::appealed600, on -> on.decide(0, told, 0));
        }
    }

    // ---- settle

    @Says(at = "Promise 19", value = "Returns the number of the entry.")
    static void p19ReturnsTheNumber(Check check) {
        Courtdocket court = Scene.claims(2);
        check.same("the first", court.settle(1), 0);
        check.same("the second", court.settle(0), 1);
        check.same("its kind", court.entryAt(1, 0), Courtdocket.SETTLE);
    }

    @Says(at = "Promise 19", value = "Throws `IndexOutOfBoundsException` if there is no such claim")
    static void p19NoSuchClaim(Check check) {
        Courtdocket court = Scene.claims(2);
        Limits.noSuch(check, "claim", court, 2, (on, claim) -> on.settle(claim));
        check.same("the last one", court.settle(1), 0);
    }

    @Says(at = "Promise 19", value = "Throws `IllegalStateException` if it is not possible, or there are 160 entries")
    static void p19NotPossible(Check check) {
        for (int state : new int[] {Courtdocket.DISMISSED, Courtdocket.SETTLED, Courtdocket.PAID}) {
            Courtdocket court = Scene.inState(state);
            check.state("in the state " + state, court, () -> court.settle(0));
        }
        Limits.atMost160Entries(check, Scene::claimed, on -> on.settle(0));
    }

    // ---- pay

    @Says(at = "Promise 20", value = "`amount`: 1 to 999999")
    static void p20Amount1To999999(Check check) {
        Courtdocket court = won600();
        check.same("1", court.pay(0, 1), 599);
        check.same("2", court.pay(0, 2), 597);
        check.state("999998 is above its balance", court, () -> court.pay(0, 999998));
        check.state("999999 is above its balance", court, () -> court.pay(0, 999999));
        check.same("all", court.pay(0, 597), 0);
    }

    @Says(at = "Promise 20", value = "Returns its balance then.")
    static void p20ReturnsItsBalance(Check check) {
        Courtdocket court = won600();
        court.pass(30);
        check.same("with interest", court.pay(0, 100), 506);
        check.same("balance", court.balance(0), 506);
        check.same("all but 1", court.pay(0, 505), 1);
        check.same("the last 1", court.pay(0, 1), 0);
        check.same("balance of a PAID one", court.balance(0), 0);
    }

    @Says(at = "Promise 20", value = "Throws `IndexOutOfBoundsException` if there is no such claim")
    static void p20NoSuchClaim(Check check) {
        Courtdocket court = won();
        Limits.noSuch(check, "claim", court, 2, (on, claim) -> on.pay(claim, 1));
        check.same("the last one", court.pay(1, 1), 599);
        check.same("not the other one", court.balance(0), 600);
    }

    @Says(at = "Promise 20", value = "Throws `IllegalArgumentException` if amount is out of range")
    static void p20AmountOutOfRange(Check check) {
        Courtdocket court = won600();
        check.argument("amount", court, 1, 999999, amount -> court.pay(0, amount));
        check.argument("amount -1", court, () -> court.pay(0, -1));
        check.same("nothing is paid", court.balance(0), 600);
    }

    @Says(at = "Promise 20",
        value = "Throws `IllegalStateException` if it is not possible, amount is above its balance, or there are 160 "
            + "entries")
    static void p20NotPossible(Check check) {
        for (int state = 0; state < 6; state++) {
            Courtdocket court = Scene.inState(state);
            if (state != Courtdocket.WON) {
                check.state("in the state " + state, court, () -> court.pay(0, 1));
            }
        }
        Courtdocket court = won600();
        check.state("1 above its balance", court, () -> court.pay(0, 601));
        court.pay(0, 600);
        check.state("nothing is left", court, () -> court.pay(0, 1));
        Limits.atMost160Entries(check, Promises16Test::won600, on -> on.pay(0, 600));
        Limits.atMost160Entries(check, Promises16Test::won600, on -> on.pay(0, 1));
    }

    // ---- stay

    @Says(at = "Promise 21", value = "`isOn`: whether it is stayed from today on")
    static void p21FromTodayOn(Check check) {
        Courtdocket court = Scene.served();
        court.pass(20);
        court.stay(0, true);
        check.same("stayed: no deadline", court.due(0, 0), -1);
        court.pass(1);
        court.stay(0, false);
        check.same("lifted: all but the day 20", court.due(0, 0), 22);
        court.pass(1);
        court.stay(0, true);
        check.same("stayed on the last day", court.due(0, 0), -1);
    }

    @Says(at = "Promise 21", value = "Returns the number of the entry.")
    static void p21ReturnsTheNumber(Check check) {
        Courtdocket court = Scene.cases(2);
        check.same("a STAY", court.stay(1, true), 0);
        check.same("another one", court.stay(0, true), 1);
        check.same("a LIFT", court.stay(1, false), 2);
        check.same("its kind", court.entryAt(2, 0), Courtdocket.LIFT);
        check.same("its case", court.entryAt(2, 2), 1);
    }

    @Says(at = "Promise 21", value = "Throws `IndexOutOfBoundsException` if there is no such case")
    static void p21NoSuchCase(Check check) {
        Courtdocket court = Scene.cases(8);
        Limits.noSuch(check, "case", court, 8, (on, number) -> on.stay(number, true));
        Limits.noSuch(check, "case", court, 8, (on, number) -> on.stay(number, false));
        check.same("the last one", court.stay(7, true), 0);
    }

    @Says(at = "Promise 21", value = "Throws `IllegalStateException` if it is so already, or there are 160 entries")
    static void p21SoAlready(Check check) {
        Courtdocket court = Scene.cases(2);
        check.state("never stayed", court, () -> court.stay(0, false));
        court.stay(0, true);
        check.state("stayed", court, () -> court.stay(0, true));
        check.state("another one is not", court, () -> court.stay(1, false));
        court.pass(1);
        check.state("stayed still", court, () -> court.stay(0, true));
        court.stay(0, false);
        check.state("lifted", court, () -> court.stay(0, false));
        check.same("entries", court.entries(), 2);
    }

    @Says(at = "Promise 21", value = "Throws `IllegalStateException` if it is so already, or there are 160 entries")
    static void p21ThereAre160Entries(Check check) {
        Limits.atMost160Entries(check, () -> Scene.cases(1), on -> on.stay(0, true));
        Courtdocket court = Scene.cases(1);
        Scene.fill(court, 0, 159);
        check.same("the 160th, a LIFT", court.stay(0, false), 159);
        check.state("a 161st", court, () -> court.stay(0, true));
    }

    // ---- defect

    @Says(at = "Promise 22", value = "`entry`: an ANSWER, a MOTION or a RESPONSE")
    static void p22AnAnswerAMotionOrAResponse(Check check) {
        Courtdocket court = Scene.responded();
        court.ruling(1, -1);
        court.answer(0);
        for (int entry : new int[] {1, 2, 4}) {
            check.same("the kind " + court.entryAt(entry, 0), court.defect(entry), 7);
        }
        for (int entry : new int[] {0, 3}) {
            check.state("the kind " + court.entryAt(entry, 0), court, () -> court.defect(entry));
        }
    }

    @Says(at = "Promise 22", value = "Returns its deadline for a cure.")
    static void p22ReturnsItsDeadline(Check check) {
        Courtdocket court = Scene.answered();
        court.pass(4);
        court.holiday(7);
        check.same("8 to 11 and 14 are working days", court.defect(1), 14);
        check.same("the same", court.due(3, 1), 14);
        Courtdocket none = Scene.answered();
        none.stay(0, true);
        check.same("stayed: NONE", none.defect(1), -1);
        Courtdocket days = Scene.answered();
        days.setRule(4, 1, false);
        check.same("the least", days.defect(1), 1);
        Courtdocket most = Scene.answered();
        most.setRule(4, 60, true);
        check.same("the most", most.defect(1), 84);
    }

    @Says(at = "Promise 22", value = "Throws `IndexOutOfBoundsException` if there is no such entry")
    static void p22NoSuchEntry(Check check) {
        Courtdocket court = Scene.answered();
        Limits.noSuch(check, "entry", court, 2, (on, entry) -> on.defect(entry));
        check.same("the last one", court.defect(1), 7);
    }

    @Says(at = "Promise 22", value = "Throws `IllegalStateException` if it is of another kind, or had one already")
    static void p22HadOneAlready(Check check) {
        Courtdocket court = Scene.answered();
        check.state("a SERVE", court, () -> court.defect(0));
        court.defect(1);
        check.state("it has one", court, () -> court.defect(1));
        court.cure(1);
        check.state("it had one", court, () -> court.defect(1));
        check.same("its deadline is as it was", court.due(3, 1), 7);
        check.same("no entry is made", court.entries(), 2);
    }

    // ---- cure

    @Says(at = "Promise 23", value = "Returns whether it counts then, which is always so.")
    static void p23ReturnsWhetherItCounts(Check check) {
        Courtdocket court = Scene.answered();
        court.defect(1);
        check.same("cured", court.cure(1), true);
        check.same("it counts", court.counts(1), true);
        court.pass(60);
        check.same("it counts later", court.counts(1), true);
    }

    @Says(at = "Promise 23", value = "Throws `IndexOutOfBoundsException` if there is no such entry")
    static void p23NoSuchEntry(Check check) {
        Courtdocket court = Scene.answered();
        court.defect(1);
        Limits.noSuch(check, "entry", court, 2, (on, entry) -> on.cure(entry));
        check.same("the last one", court.cure(1), true);
    }

    @Says(at = "Promise 23",
        value = "Throws `IllegalStateException` if it has no defect, was cured, or today is behind the deadline for "
            + "that")
    static void p23NotCured(Check check) {
        Courtdocket court = Scene.answered();
        check.state("no defect", court, () -> court.cure(1));
        check.state("of another kind", court, () -> court.cure(0));
        court.defect(1);
        court.cure(1);
        check.state("cured", court, () -> court.cure(1));
        Courtdocket last = Scene.answered();
        last.defect(1);
        last.pass(7);
        check.same("on the last day", last.cure(1), true);
        Courtdocket late = Scene.answered();
        late.defect(1);
        late.pass(8);
        check.state("a day behind it", late, () -> late.cure(1));
        check.same("it counts no more", late.counts(1), false);
        Courtdocket none = Scene.answered();
        none.defect(1);
        none.stay(0, true);
        none.pass(60);
        check.same("never behind none", none.cure(1), true);
    }

    // ---- extend

    @Says(at = "Promise 24", value = "`sort`: 0 for an answer, 1 for a RESPONSE, 2 for an APPEAL")
    static void p24Sort0To2(Check check) {
        Courtdocket answer = Scene.served();
        check.same("0", answer.extend(0, 0, 1), 22);
        Courtdocket response = Scene.moved();
        check.same("1", response.extend(1, 1, 1), 15);
        Courtdocket appeal = Scene.won(5);
        check.same("2", appeal.extend(2, 0, 1), 31);
    }

    @Says(at = "Promise 24", value = "`number`: the claim; for 1 the entry of the MOTION")
    static void p24TheClaimOrTheMotion(Check check) {
        Courtdocket court = Scene.claims(2);
        court.serve(1, 0);
        court.serve(0, 0);
        court.motion(1);
        court.motion(0);
        check.same("the MOTION 3", court.extend(1, 3, 1), 15);
        check.same("not the MOTION 2", court.due(1, 2), 14);
        court.respond(2);
        court.ruling(2, -1);
        check.same("the claim 1", court.extend(0, 1, 2), 16);
        check.index("the claim 2", court, () -> court.extend(0, 2, 2));
    }

    @Says(at = "Promise 24", value = "`days`: 1 to 60")
    static void p24Days1To60(Check check) {
        check.same("1", Scene.served().extend(0, 0, 1), 22);
        check.same("60", Scene.served().extend(0, 0, 60), 81);
        check.same("59", Scene.served().extend(0, 0, 59), 80);
        check.same("1 for an APPEAL", Scene.won(5).extend(2, 0, 1), 31);
        check.same("60 for an APPEAL", Scene.won(5).extend(2, 0, 60), 91);
    }

    @Says(at = "Promise 24", value = "Returns the deadline then; NONE if there is none.")
    static void p24ReturnsTheDeadline(Check check) {
        Courtdocket court = Scene.served();
        check.same("21 and 5 days are 26: rolled on", court.extend(0, 0, 5), 28);
        check.same("the same", court.due(0, 0), 28);
        Courtdocket last = Scene.claimed();
        Scene.pass(last, 900);
        last.setRule(0, 60, false);
        last.serve(0, 0);
        for (int times = 0; times < 7; times++) {
            last.extend(0, 0, 60);
        }
        check.same("up to 1400", last.extend(0, 0, 20), 1400);
        check.same("behind 1400", last.extend(0, 0, 1), -1);
        check.state("it is NONE then", last, () -> last.extend(0, 0, 1));
    }

    @Says(at = "Promise 24",
        value = "Throws `IndexOutOfBoundsException` if sort is out of range, or there is no such claim or MOTION")
    static void p24NoSuchSortClaimOrMotion(Check check) {
        Courtdocket court = Scene.moved();
        check.index("sort", court, 0, 2, sort -> court.extend(sort, 1, 1));
        Limits.noSuch(check, "claim for an answer", court, 1, (on, number) -> on.extend(0, number, 1));
        Limits.noSuch(check, "claim for an APPEAL", court, 1, (on, number) -> on.extend(2, number, 1));
        Limits.noSuch(check, "entry for a RESPONSE", court, 2, (on, number) -> on.extend(1, number, 1));
        check.index("no MOTION, but a SERVE", court, () -> court.extend(1, 0, 1));
        check.same("the last one", court.extend(1, 1, 1), 15);
    }

    @Says(at = "Promise 24", value = "Throws `IllegalArgumentException` if days is out of range")
    static void p24DaysOutOfRange(Check check) {
        Courtdocket court = Scene.moved();
        check.argument("days", court, 1, 60, days -> court.extend(1, 1, days));
        Courtdocket won = Scene.won(5);
        check.argument("days", won, 1, 60, days -> won.extend(0, 0, days));
        check.argument("days for an APPEAL", won, 1, 60, days -> won.extend(2, 0, days));
    }

    @Says(at = "Promise 24",
        value = "Throws `IllegalStateException` if it has not begun, is NONE, or today is behind it")
    static void p24NotExtended(Check check) {
        Courtdocket claimed = Scene.claimed();
        check.state("not begun: an answer", claimed, () -> claimed.extend(0, 0, 1));
        check.state("not begun: an APPEAL", claimed, () -> claimed.extend(2, 0, 1));
        Courtdocket moved = Scene.moved();
        check.state("NONE: a MOTION is open", moved, () -> moved.extend(0, 0, 1));
        moved.stay(0, true);
        check.state("NONE: stayed", moved, () -> moved.extend(1, 1, 1));
        Courtdocket last = Scene.served();
        last.pass(21);
        check.same("on the last day", last.extend(0, 0, 1), 22);
        Courtdocket late = Scene.served();
        late.pass(22);
        check.state("a day behind it", late, () -> late.extend(0, 0, 1));
        check.same("it is as it was", late.due(0, 0), 21);
    }

    // ---- which exception is thrown

    @Says(at = "Classes", value = "If several apply, the one that the throws clause names first is thrown.")
    static void orderOfOrders(Check check) {
        Courtdocket court = Scene.inState(Courtdocket.SETTLED);
        Scene.fill(court);
        check.index("vacate: no claim, 160 entries", court, () -> court.vacate(1));
        check.index("appeal: no claim, 160 entries", court, () -> court.appeal(1));
        check.index("decide: no claim, no outcome, 160 entries", court, () -> court.decide(1, 3, 0));
        check.argument("decide: no outcome, SETTLED", court, () -> court.decide(0, 3, 0));
        check.argument("decide: no cap, SETTLED", court, () -> court.decide(0, 2, 1001));
        check.index("settle: no claim, 160 entries", court, () -> court.settle(1));
        check.index("pay: no claim, no amount, 160 entries", court, () -> court.pay(1, 0));
        check.argument("pay: no amount, SETTLED", court, () -> court.pay(0, 1000000));
        check.index("stay: no case, 160 entries", court, () -> court.stay(1, true));
    }

    @Says(at = "Classes", value = "If several apply, the one that the throws clause names first is thrown.")
    static void orderOfDefectCureAndExtend(Check check) {
        Courtdocket court = Scene.moved();
        check.index("extend: no sort, no days", court, () -> court.extend(3, 0, 0));
        check.index("extend: no claim, no days", court, () -> court.extend(0, 1, 0));
        check.index("extend: no MOTION, no days", court, () -> court.extend(1, 0, 61));
        check.argument("extend: no days, NONE", court, () -> court.extend(0, 0, 0));
        check.argument("extend: no days, not begun", court, () -> court.extend(2, 0, 61));
        court.pass(15);
        check.argument("extend: no days, late", court, () -> court.extend(1, 1, 0));
    }
}
