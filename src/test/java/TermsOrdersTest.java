/** What stands under "The docket" of RULING, JUDGEMENT, VACATE, APPEAL and DECISION. */
public final class TermsOrdersTest {
    private static final int PENDING = Courtdocket.PENDING, DISMISSED = Courtdocket.DISMISSED, WON = Courtdocket.WON,
        APPEALED = Courtdocket.APPEALED, SETTLED = Courtdocket.SETTLED;

    private TermsOrdersTest() {
    }

    public static void main(String[] args) {
        Sentences.run(TermsOrdersTest.class);
    }

    /** The state of the claim 0 by both ways of asking, and its amount. */
    private static void is(Check check, String what, Courtdocket court, int state, int amount) {
        check.same(what + ": state", court.stateOf(0), state);
        check.same(what + ": state by docket", court.stateByDocket(0), state);
        check.same(what + ": amount", court.amountOf(0), amount);
    }

    // ---- RULING

    @Says(at = "The docket", value = "RULING, by the court, on a MOTION that is open")
    static void rulingOnAnOpenMotion(Check check) {
        Courtdocket court = Scene.responded();
        court.defect(1);
        court.pass(7);
        check.same("on the last day for its cure", court.ruling(1, -1), 3);
        check.state("it has a RULING", court, () -> court.ruling(1, -1));
        court.pass(1);
        check.state("and counts no more", court, () -> court.ruling(1, -1));
        Courtdocket lapsed = Scene.responded();
        lapsed.defect(1);
        lapsed.pass(8);
        check.state("it counts no more", lapsed, () -> lapsed.ruling(1, -1));
        Courtdocket vacated = Scene.responded();
        vacated.ruling(1, 5);
        vacated.vacate(0);
        check.state("its RULING was vacated", vacated, () -> vacated.ruling(1, 5));
    }

    @Says(at = "The docket",
        value = "of a claim that is PENDING, if it has a RESPONSE that counts, or today is behind its deadline.")
    static void rulingOfAPendingClaim(Check check) {
        Courtdocket settled = Scene.responded();
        settled.settle(0);
        check.state("SETTLED", settled, () -> settled.ruling(1, -1));
        check.state("SETTLED, granted", settled, () -> settled.ruling(1, 0));
        // The ANSWER counts again, as its case is led by one that was stayed.
        Courtdocket court = Scene.served();
        court.open(1);
        court.stay(1, true);
        court.answer(0);
        court.defect(2);
        court.pass(8);
        court.motion(0);
        court.respond(3);
        court.lead(0, 1);
        check.same("answered again", court.isAnswered(0), true);
        court.judge(0, 700);
        check.state("WON, with a MOTION that is open", court, () -> court.ruling(3, 0));
        court.vacate(0);
        check.same("PENDING again", court.ruling(3, 0), 7);
    }

    @Says(at = "The docket",
        value = "of a claim that is PENDING, if it has a RESPONSE that counts, or today is behind its deadline.")
    static void rulingWithAResponse(Check check) {
        Courtdocket without = Scene.moved();
        check.state("without one", without, () -> without.ruling(1, -1));
        Courtdocket court = Scene.responded();
        check.same("with one, on the same day", court.ruling(1, -1), 3);
        Courtdocket two = Scene.claims(2);
        two.serve(0, 0);
        two.serve(1, 0);
        two.motion(0);
        two.motion(1);
        two.respond(3);
        check.state("the RESPONSE is to another one", two, () -> two.ruling(2, -1));
        check.same("to this one", two.ruling(3, -1), 5);
        Courtdocket defect = Scene.responded();
        defect.defect(2);
        defect.pass(7);
        check.same("with one that can be cured", defect.ruling(1, -1), 3);
        Courtdocket lapsed = Scene.responded();
        lapsed.defect(2);
        lapsed.pass(8);
        check.state("with one that counts no more", lapsed, () -> lapsed.ruling(1, -1));
        lapsed.pass(6);
        check.state("the same on the last day for another one", lapsed, () -> lapsed.ruling(1, -1));
        lapsed.pass(1);
        check.same("the same behind it", lapsed.ruling(1, -1), 3);
    }

    @Says(at = "The docket",
        value = "of a claim that is PENDING, if it has a RESPONSE that counts, or today is behind its deadline.")
    static void rulingBehindTheDeadline(Check check) {
        Courtdocket last = Scene.moved();
        last.pass(14);
        check.state("on the last day", last, () -> last.ruling(1, -1));
        last.pass(1);
        check.same("a day behind it", last.ruling(1, -1), 2);
        Courtdocket extended = Scene.moved();
        extended.extend(1, 1, 1);
        extended.pass(15);
        check.state("on the day that was added", extended, () -> extended.ruling(1, -1));
        extended.pass(1);
        check.same("a day behind that", extended.ruling(1, -1), 2);
        Courtdocket none = Scene.moved();
        none.stay(0, true);
        none.pass(60);
        check.state("never behind none", none, () -> none.ruling(1, -1));
    }

    @Says(at = "The docket", value = "It is denied; or granted, by which the claim is DISMISSED")
    static void rulingIsDeniedOrGranted(Check check) {
        Courtdocket denied = Scene.responded();
        denied.ruling(1, -1);
        is(check, "denied", denied, PENDING, 1000);
        Courtdocket granted = Scene.responded();
        granted.ruling(1, 0);
        is(check, "granted", granted, DISMISSED, 1000);
        check.same("no balance", granted.balance(0), 0);
    }

    @Says(at = "The docket", value = "or in part: the amount becomes a lesser one, at least 1")
    static void rulingInPart(Check check) {
        for (int amount : new int[] {1, 2, 500, 998, 999}) {
            Courtdocket court = Scene.responded();
            court.ruling(1, amount);
            is(check, "in part", court, PENDING, amount);
        }
        Courtdocket equal = Scene.responded();
        check.argument("no lesser one", equal, () -> equal.ruling(1, 1000));
        check.argument("a greater one", equal, () -> equal.ruling(1, 1001));
        Courtdocket least = Scene.opened();
        least.claim(0, 0, 1, 1);
        least.serve(0, 0);
        least.motion(0);
        least.respond(1);
        check.argument("none is less than 1", least, () -> least.ruling(1, 1));
        check.same("it is granted by 0", least.ruling(1, 0), 3);
        is(check, "over 1", least, DISMISSED, 1);
        Courtdocket again = Scene.responded();
        again.ruling(1, 500);
        again.motion(0);
        again.respond(4);
        check.argument("not less than the amount now", again, () -> again.ruling(4, 500));
        again.ruling(4, 499);
        is(check, "a second one", again, PENDING, 499);
    }

    // ---- JUDGEMENT

    @Says(at = "The docket", value = "JUDGEMENT, by the court: of a claim that is PENDING and answered")
    static void judgementOfAPendingClaim(Check check) {
        for (int state : new int[] {DISMISSED, WON, APPEALED, SETTLED, Courtdocket.PAID}) {
            Courtdocket court = Scene.inState(state);
            check.state("in the state " + state, court, () -> court.judge(0, 1));
            check.state("in the state " + state + ", 0", court, () -> court.judge(0, 0));
        }
        Courtdocket settled = Scene.answered();
        settled.settle(0);
        check.state("SETTLED, answered", settled, () -> settled.judge(0, 1));
        Courtdocket court = Scene.answered();
        check.same("PENDING", court.judge(0, 1), 2);
    }

    @Says(at = "The docket", value = "JUDGEMENT, by the court: of a claim that is PENDING and answered")
    static void judgementOfAnAnsweredClaim(Check check) {
        Courtdocket court = Scene.served();
        check.state("not answered", court, () -> court.judge(0, 1));
        check.state("not answered, 0", court, () -> court.judge(0, 0));
        court.answer(0);
        court.defect(1);
        court.pass(7);
        check.same("by an ANSWER on the last day for its cure", court.judge(0, 5), 2);
        Courtdocket lapsed = Scene.answered();
        lapsed.defect(1);
        lapsed.pass(8);
        check.state("by an ANSWER that counts no more", lapsed, () -> lapsed.judge(0, 1));
        Courtdocket moved = Scene.moved();
        check.state("with a MOTION alone", moved, () -> moved.judge(0, 1));
        Courtdocket late = Scene.served();
        late.pass(22);
        check.state("late, but not by default", late, () -> late.judge(0, 1));
    }

    @Says(at = "The docket", value = "with an amount up to that of the claim, and up to its cap, if it has one")
    static void judgementUpToTheAmount(Check check) {
        for (int amount : new int[] {1, 999, 1000}) {
            Courtdocket court = Scene.answered();
            court.judge(0, amount);
            is(check, "with " + amount, court, WON, amount);
        }
        Courtdocket court = Scene.answered();
        check.argument("above it", court, () -> court.judge(0, 1001));
        Courtdocket part = Scene.responded();
        part.ruling(1, 400);
        part.answer(0);
        check.argument("above what a RULING left", part, () -> part.judge(0, 401));
        part.judge(0, 400);
        is(check, "what a RULING left", part, WON, 400);
    }

    @Says(at = "The docket", value = "with an amount up to that of the claim, and up to its cap, if it has one")
    static void judgementUpToTheCap(Check check) {
        for (int cap : new int[] {0, 1, 599, 600}) {
            Courtdocket court = Scene.appealed(600);
            court.decide(0, 2, cap);
            check.state("a cap of " + cap + ", and 1 more", court, () -> court.judge(0, cap + 1));
            check.state("a cap of " + cap + ", and all", court, () -> court.judge(0, 1000));
            court.judge(0, cap);
            is(check, "up to a cap of " + cap, court, cap == 0 ? DISMISSED : WON, cap == 0 ? 1000 : cap);
        }
        Courtdocket twice = Scene.appealed(600);
        twice.decide(0, 2, 300);
        twice.judge(0, 200);
        twice.appeal(0);
        twice.decide(0, 2, 200);
        check.state("the cap of the latest DECISION", twice, () -> twice.judge(0, 201));
        twice.judge(0, 200);
        is(check, "up to the later cap", twice, WON, 200);
        Courtdocket all = Scene.appealed(1000);
        all.decide(0, 2, 1000);
        all.judge(0, 1000);
        is(check, "a cap as high as the amount", all, WON, 1000);
    }

    @Says(at = "The docket", value = "the claim is WON with this amount, or DISMISSED, if it is 0")
    static void judgementOf0Dismisses(Check check) {
        Courtdocket nothing = Scene.answered();
        nothing.judge(0, 0);
        is(check, "0", nothing, DISMISSED, 1000);
        check.same("no deadline for an APPEAL", nothing.due(2, 0), -1);
        Courtdocket least = Scene.answered();
        least.judge(0, 1);
        is(check, "1", least, WON, 1);
        check.same("its balance", least.balance(0), 1);
    }

    private static void noDefault(Check check, String what, Courtdocket court) {
        check.state("by default: " + what, court, () -> court.judge(0, -1));
    }

    @Says(at = "The docket",
        value = "By default: of a claim that is PENDING, served, not answered, without a MOTION that is open")
    static void defaultOfAPendingClaim(Check check) {
        Courtdocket court = Scene.served();
        court.pass(22);
        court.judge(0, -1);
        is(check, "PENDING", court, WON, 1000);
        noDefault(check, "WON", court);
        court.appeal(0);
        noDefault(check, "APPEALED", court);
        court.decide(0, 1, 0);
        noDefault(check, "DISMISSED", court);
        Courtdocket settled = Scene.served();
        settled.pass(22);
        settled.settle(0);
        noDefault(check, "SETTLED", settled);
        Courtdocket granted = Scene.responded();
        granted.ruling(1, 0);
        granted.pass(22);
        noDefault(check, "DISMISSED by a RULING", granted);
        Courtdocket paid = Scene.served();
        paid.pass(22);
        paid.judge(0, -1);
        paid.pay(0, 1000);
        noDefault(check, "PAID", paid);
    }

    @Says(at = "The docket",
        value = "By default: of a claim that is PENDING, served, not answered, without a MOTION that is open")
    static void defaultOfAServedClaim(Check check) {
        Courtdocket court = Scene.claims(2);
        court.serve(1, 0);
        court.pass(60);
        noDefault(check, "not served", court);
        court.serve(0, 0);
        noDefault(check, "just served", court);
        court.pass(22);
        check.same("served", court.judge(0, -1), 2);
    }

    @Says(at = "The docket",
        value = "By default: of a claim that is PENDING, served, not answered, without a MOTION that is open")
    static void defaultOfAnUnansweredClaim(Check check) {
        Courtdocket answered = Scene.answered();
        answered.pass(22);
        noDefault(check, "answered", answered);
        Courtdocket last = Scene.answered();
        last.pass(15);
        last.defect(1);
        last.pass(7);
        noDefault(check, "by an ANSWER on the last day for its cure", last);
        last.pass(1);
        check.same("by an ANSWER that counts no more", last.judge(0, -1), 2);
        Courtdocket moved = Scene.moved();
        moved.pass(42);
        noDefault(check, "a MOTION is open", moved);
        moved.defect(1);
        noDefault(check, "a MOTION with a defect", moved);
        moved.pass(7);
        noDefault(check, "a MOTION on the last day for its cure", moved);
        moved.pass(1);
        check.same("a MOTION that counts no more", moved.judge(0, -1), 2);
    }

    @Says(at = "The docket", value = "if today is behind its deadline for an answer; it is WON with its amount")
    static void defaultBehindTheDeadline(Check check) {
        Courtdocket court = Scene.served();
        court.pass(21);
        noDefault(check, "on the last day", court);
        court.pass(1);
        check.same("a day behind it", court.judge(0, -1), 1);
        is(check, "a day behind it", court, WON, 1000);
        Courtdocket extended = Scene.served();
        extended.extend(0, 0, 1);
        extended.pass(22);
        noDefault(check, "on the day that was added", extended);
        extended.pass(1);
        check.same("a day behind that", extended.judge(0, -1), 1);
        Courtdocket none = Scene.served();
        none.stay(0, true);
        none.pass(60);
        noDefault(check, "no deadline", none);
        Courtdocket part = Scene.responded();
        part.ruling(1, 70);
        part.pass(14);
        noDefault(check, "on the last day by AFTER", part);
        part.pass(1);
        part.judge(0, -1);
        is(check, "what a RULING left", part, WON, 70);
    }

    /** The claim over 1000, WON by default and sent back on the day 22. */
    private static Courtdocket sentBack(int cap) {
        Courtdocket court = Scene.served();
        court.pass(22);
        court.judge(0, -1);
        court.appeal(0);
        court.decide(0, 2, cap);
        return court;
    }

    @Says(at = "The docket", value = "or its cap, if that is less and above 0; with a cap of 0 it cannot be.")
    static void defaultWithACap(Check check) {
        for (int cap : new int[] {1, 2, 999, 1000}) {
            Courtdocket court = sentBack(cap);
            court.judge(0, -1);
            is(check, "a cap of " + cap, court, WON, cap);
            check.same("as told", court.entryAt(4, 3), cap);
        }
        Courtdocket nothing = sentBack(0);
        noDefault(check, "a cap of 0", nothing);
        is(check, "a cap of 0", nothing, PENDING, 1000);
    }

    @Says(at = "The docket", value = "or its cap, if that is less and above 0; with a cap of 0 it cannot be.")
    static void defaultWithACapThatIsNotLess(Check check) {
        for (int left : new int[] {599, 600, 601}) {
            Courtdocket court = Scene.appealed(600);
            court.decide(0, 2, 600);
            court.defect(1);
            court.pass(8);
            court.motion(0);
            court.respond(5);
            court.ruling(5, left);
            court.pass(15);
            court.judge(0, -1);
            is(check, "the amount " + left + ", a cap of 600", court, WON, Math.min(left, 600));
        }
    }

    // ---- VACATE

    @Says(at = "The docket",
        value = "VACATE, by the court: of the latest RULING, JUDGEMENT, APPEAL, DECISION, SETTLE or PAY of a claim")
    static void vacateNoOther(Check check) {
        Courtdocket nothing = Scene.claimed();
        check.state("no entry", nothing, () -> nothing.vacate(0));
        Courtdocket court = Scene.responded();
        court.stay(0, true);
        check.state("no order", court, () -> court.vacate(0));
        Courtdocket appealed = Scene.appealed(600);
        check.state("the latest is an APPEAL", appealed, () -> appealed.vacate(0));
        appealed.decide(0, 1, 0);
        check.state("the latest is a DECISION that turns it round", appealed, () -> appealed.vacate(0));
        Courtdocket affirmed = Scene.appealed(600);
        affirmed.decide(0, 0, 0);
        check.state("the latest is a DECISION that affirms", affirmed, () -> affirmed.vacate(0));
        affirmed.pay(0, 1);
        check.state("the latest is a PAY", affirmed, () -> affirmed.vacate(0));
        Courtdocket back = Scene.appealed(600);
        back.decide(0, 2, 600);
        check.state("the latest is a DECISION that sends back", back, () -> back.vacate(0));
        Courtdocket settled = Scene.won(600);
        settled.settle(0);
        check.state("the latest is a SETTLE", settled, () -> settled.vacate(0));
        Courtdocket paid = Scene.won(600);
        paid.pay(0, 600);
        check.state("the latest is a PAY of all", paid, () -> paid.vacate(0));
    }

    @Says(at = "The docket",
        value = "VACATE, by the court: of the latest RULING, JUDGEMENT, APPEAL, DECISION, SETTLE or PAY of a claim")
    static void vacateTheLatestOfTheClaim(Check check) {
        Courtdocket court = Scene.claims(2);
        for (int claim = 0; claim < 2; claim++) {
            court.serve(claim, 0);
            court.answer(claim);
            court.judge(claim, 100);
        }
        court.appeal(1);
        check.same("another claim is APPEALED later", court.vacate(0), 7);
        check.same("the JUDGEMENT of the claim", court.entryAt(7, 3), 2);
        check.same("the other one is as it was", court.stateOf(1), APPEALED);
        Courtdocket part = Scene.responded();
        part.ruling(1, 400);
        part.answer(0);
        part.defect(4);
        check.same("an ANSWER behind the RULING", part.vacate(0), 5);
        check.same("the RULING", part.entryAt(5, 3), 3);
    }

    @Says(at = "The docket", value = "but those that were vacated")
    static void vacateNotThoseThatWere(Check check) {
        Courtdocket court = Scene.responded();
        court.ruling(1, 400);
        court.answer(0);
        court.judge(0, 300);
        check.same("the JUDGEMENT", court.entryAt(court.vacate(0), 3), 5);
        check.same("the RULING ahead of it", court.entryAt(court.vacate(0), 3), 3);
        check.state("none is left", court, () -> court.vacate(0));
        court.judge(0, 900);
        check.same("a new JUDGEMENT", court.entryAt(court.vacate(0), 3), 8);
        check.state("none is left again", court, () -> court.vacate(0));
        Courtdocket denied = Scene.responded();
        denied.ruling(1, -1);
        denied.answer(0);
        denied.judge(0, 300);
        denied.vacate(0);
        check.state("the one ahead of it was denied", denied, () -> denied.vacate(0));
    }

    @Says(at = "The docket", value = "if it is a RULING that was not denied, or a JUDGEMENT")
    static void vacateARulingOrAJudgement(Check check) {
        Courtdocket denied = Scene.responded();
        denied.ruling(1, -1);
        check.state("denied", denied, () -> denied.vacate(0));
        Courtdocket granted = Scene.responded();
        granted.ruling(1, 0);
        check.same("granted", granted.vacate(0), 4);
        Courtdocket part = Scene.responded();
        part.ruling(1, 1);
        check.same("in part", part.vacate(0), 4);
        Courtdocket won = Scene.won(5);
        check.same("a JUDGEMENT", won.vacate(0), 3);
        Courtdocket nothing = Scene.answered();
        nothing.judge(0, 0);
        check.same("a JUDGEMENT of 0", nothing.vacate(0), 3);
        Courtdocket byDefault = Scene.served();
        byDefault.pass(22);
        byDefault.judge(0, -1);
        check.same("a JUDGEMENT by default", byDefault.vacate(0), 2);
        is(check, "by default", byDefault, PENDING, 1000);
    }

    @Says(at = "The docket", value = "the claim has the state, the amount and the cap that it had ahead of it")
    static void vacateGivesStateAndAmountBack(Check check) {
        Courtdocket court = Scene.responded();
        court.ruling(1, 400);
        court.motion(0);
        court.respond(4);
        court.ruling(4, 0);
        court.vacate(0);
        is(check, "granted", court, PENDING, 400);
        court.answer(0);
        court.judge(0, 100);
        court.vacate(0);
        is(check, "a JUDGEMENT", court, PENDING, 400);
        check.same("no balance", court.balance(0), 0);
        court.judge(0, 0);
        court.vacate(0);
        is(check, "a JUDGEMENT of 0", court, PENDING, 400);
        court.vacate(0);
        is(check, "in part", court, PENDING, 1000);
        check.same("it can be WON with all", court.judge(0, 1000), 14);
    }

    @Says(at = "The docket", value = "the claim has the state, the amount and the cap that it had ahead of it")
    static void vacateGivesTheCapBack(Check check) {
        Courtdocket court = Scene.appealed(600);
        court.decide(0, 2, 300);
        court.judge(0, 200);
        court.vacate(0);
        is(check, "sent back, judged and vacated", court, PENDING, 1000);
        check.state("above the cap", court, () -> court.judge(0, 301));
        check.same("up to the cap", court.judge(0, 300), 7);
        Courtdocket without = Scene.won(600);
        without.vacate(0);
        check.same("no cap ahead of it, none then", without.judge(0, 1000), 4);
        Courtdocket zero = Scene.appealed(600);
        zero.decide(0, 2, 0);
        zero.judge(0, 0);
        zero.vacate(0);
        is(check, "a cap of 0", zero, PENDING, 1000);
        check.state("a cap of 0 still", zero, () -> zero.judge(0, 1));
    }

    @Says(at = "The docket", value = "The MOTION of a RULING is not open by that.")
    static void vacateDoesNotOpenTheMotion(Check check) {
        Courtdocket court = Scene.moved();
        court.pass(15);
        court.ruling(1, 0);
        court.vacate(0);
        check.same("a deadline for an answer", court.due(0, 0), 29);
        check.state("no RESPONSE", court, () -> court.respond(1));
        check.state("no RULING", court, () -> court.ruling(1, 0));
        check.same("another MOTION", court.motion(0), 4);
    }

    // ---- APPEAL

    @Says(at = "The docket", value = "APPEAL, by whom it is against, of a claim that is WON, on which nothing is paid")
    static void appealOfAWonClaim(Check check) {
        for (int state = 0; state < 6; state++) {
            Courtdocket court = Scene.inState(state);
            if (state == WON) {
                check.same("WON", court.appeal(0), 3);
            } else {
                check.state("in the state " + state, court, () -> court.appeal(0));
            }
        }
        Courtdocket vacated = Scene.won(600);
        vacated.vacate(0);
        check.state("vacated", vacated, () -> vacated.appeal(0));
        Courtdocket settled = Scene.won(600);
        settled.settle(0);
        check.state("WON, then SETTLED", settled, () -> settled.appeal(0));
    }

    @Says(at = "The docket", value = "APPEAL, by whom it is against, of a claim that is WON, on which nothing is paid")
    static void appealWithNothingPaid(Check check) {
        Courtdocket court = Scene.won(600);
        court.pay(0, 1);
        check.state("1 is paid", court, () -> court.appeal(0));
        Courtdocket two = Scene.claims(2);
        for (int claim = 0; claim < 2; claim++) {
            two.serve(claim, 0);
            two.answer(claim);
            two.judge(claim, 10);
        }
        two.pay(1, 5);
        check.same("paid on another claim", two.appeal(0), 7);
    }

    @Says(at = "The docket",
        value = "and that was appealed at most once (so it can be twice in all) since it was last WON by a JUDGEMENT")
    static void appealTwiceAtMost(Check check) {
        Courtdocket court = Scene.won(600);
        check.same("the first", court.appeal(0), 3);
        court.decide(0, 0, 0);
        check.same("the second", court.appeal(0), 5);
        court.decide(0, 0, 0);
        check.state("a third", court, () -> court.appeal(0));
        check.same("though the deadline is ahead", court.due(2, 0), 30);
    }

    @Says(at = "The docket",
        value = "and that was appealed at most once (so it can be twice in all) since it was last WON by a JUDGEMENT")
    static void appealTwiceSinceTheLastJudgement(Check check) {
        Courtdocket court = Scene.appealed(600);
        court.decide(0, 0, 0);
        court.appeal(0);
        court.decide(0, 2, 600);
        court.judge(0, 500);
        check.same("the first of the new JUDGEMENT", court.appeal(0), 8);
        court.decide(0, 0, 0);
        check.same("the second", court.appeal(0), 10);
        court.decide(0, 0, 0);
        check.state("a third", court, () -> court.appeal(0));
        Courtdocket two = Scene.claims(2);
        for (int claim = 0; claim < 2; claim++) {
            two.serve(claim, 0);
            two.answer(claim);
            two.judge(claim, 10);
        }
        for (int times = 0; times < 2; times++) {
            two.appeal(1);
            two.decide(1, 0, 0);
        }
        check.state("the other claim was, twice", two, () -> two.appeal(1));
        check.same("this one was not", two.appeal(0), 10);
        check.state("the other claim was, ahead of the APPEAL of this one", two, () -> two.appeal(1));
    }

    @Says(at = "The docket", value = "if today is not behind the deadline for it: the claim is APPEALED")
    static void appealInTime(Check check) {
        Courtdocket last = Scene.won(600);
        last.pass(30);
        check.same("on the last day", last.appeal(0), 3);
        is(check, "on the last day", last, APPEALED, 600);
        check.same("no balance", last.balance(0), 0);
        Courtdocket late = Scene.won(600);
        late.pass(31);
        check.state("a day behind it", late, () -> late.appeal(0));
        is(check, "a day behind it", late, WON, 600);
        Courtdocket affirmed = Scene.appealed(600);
        affirmed.pass(20);
        affirmed.decide(0, 0, 0);
        affirmed.pass(30);
        check.same("on the last day from the DECISION", affirmed.appeal(0), 5);
        Courtdocket later = Scene.appealed(600);
        later.pass(20);
        later.decide(0, 0, 0);
        later.pass(31);
        check.state("a day behind that, on 51", later, () -> later.appeal(0));
        Courtdocket none = Scene.won(600);
        none.stay(0, true);
        none.pass(60);
        check.same("no deadline while stayed", none.appeal(0), 4);
    }

    // ---- DECISION

    @Says(at = "The docket",
        value = "DECISION, by the court, of a claim that is APPEALED: it affirms, and the claim is WON")
    static void decisionOfAnAppealedClaim(Check check) {
        for (int state = 0; state < 6; state++) {
            for (int outcome = 0; outcome < 3; outcome++) {
                Courtdocket court = Scene.inState(state);
                int told = outcome;
                if (state == APPEALED) {
                    check.same("APPEALED", court.decide(0, outcome, 0), 4);
                } else {
                    check.state("in the state " + state, court, () -> court.decide(0, told, 0));
                }
            }
        }
        Courtdocket twice = Scene.appealed(600);
        twice.decide(0, 0, 0);
        check.state("decided", twice, () -> twice.decide(0, 0, 0));
    }

    @Says(at = "The docket",
        value = "DECISION, by the court, of a claim that is APPEALED: it affirms, and the claim is WON")
    static void decisionAffirms(Check check) {
        Courtdocket court = Scene.appealed(600);
        court.pass(30);
        court.decide(0, 0, 0);
        is(check, "affirmed", court, WON, 600);
        check.same("with interest since the JUDGEMENT", court.balance(0), 606);
        check.same("a new deadline for an APPEAL", court.due(2, 0), 60);
    }

    @Says(at = "The docket", value = "or it turns it round, and it is DISMISSED")
    static void decisionTurnsRound(Check check) {
        Courtdocket court = Scene.appealed(600);
        court.decide(0, 1, 0);
        is(check, "turned round", court, DISMISSED, 600);
        check.same("no balance", court.balance(0), 0);
        check.state("no JUDGEMENT", court, () -> court.judge(0, 1));
    }

    @Says(at = "The docket",
        value = "or it sends it back: it is PENDING, with a cap, 0 to its amount, and answered as before")
    static void decisionSendsBack(Check check) {
        for (int cap : new int[] {0, 1, 600}) {
            Courtdocket court = Scene.appealed(600);
            court.decide(0, 2, cap);
            is(check, "a cap of " + cap, court, PENDING, 1000);
            check.same("as told", court.entryAt(4, 4), cap);
        }
        Courtdocket court = Scene.appealed(600);
        check.argument("a cap above its amount", court, () -> court.decide(0, 2, 601));
        check.argument("a cap below 0", court, () -> court.decide(0, 2, -1));
        court.decide(0, 2, 5);
        check.same("answered as before", court.isAnswered(0), true);
        check.state("so not again", court, () -> court.answer(0));
        Courtdocket unanswered = sentBack(1000);
        check.same("not answered as before", unanswered.isAnswered(0), false);
        check.same("its deadline as before", unanswered.due(0, 0), 21);
    }

    @Says(at = "The docket", value = "its amount is that which it had ahead of the JUDGEMENT")
    static void decisionGivesTheAmountBack(Check check) {
        Courtdocket court = Scene.responded();
        court.ruling(1, 700);
        court.answer(0);
        court.judge(0, 300);
        court.appeal(0);
        court.decide(0, 2, 300);
        is(check, "that of the RULING", court, PENDING, 700);
        court.judge(0, 200);
        court.appeal(0);
        court.decide(0, 0, 0);
        court.appeal(0);
        is(check, "that of the JUDGEMENT", court, APPEALED, 200);
        court.decide(0, 2, 200);
        is(check, "ahead of the second JUDGEMENT", court, PENDING, 700);
        Courtdocket vacated = Scene.won(600);
        vacated.vacate(0);
        vacated.judge(0, 500);
        vacated.appeal(0);
        vacated.decide(0, 2, 0);
        is(check, "a JUDGEMENT ahead was vacated", vacated, PENDING, 1000);
    }
}
