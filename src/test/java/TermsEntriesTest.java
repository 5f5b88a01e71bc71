/** What stands under "The docket" of entries, and of SERVE, ANSWER, MOTION and RESPONSE. */
public final class TermsEntriesTest {
    private TermsEntriesTest() {
    }

    public static void main(String[] args) {
        Sentences.run(TermsEntriesTest.class);
    }

    @Says(at = "The docket", value = "Entries are numbered from 0, at most 160.")
    static void entriesAreNumberedFrom0(Check check) {
        Courtdocket court = Scene.claimed();
        check.index("no entry 0", court, () -> court.entryAt(0, 0));
        check.same("the first", court.serve(0, 0), 0);
        check.same("the second", court.answer(0), 1);
        check.same("the second is there", court.entryAt(1, 0), Courtdocket.ANSWER);
        check.index("no third", court, () -> court.entryAt(2, 0));
    }

    @Says(at = "The docket", value = "Entries are numbered from 0, at most 160.")
    static void entriesAreAtMost160(Check check) {
        Courtdocket court = Scene.claims(2);
        Scene.fill(court, 0, 159);
        check.same("the 160th", court.serve(0, 0), 159);
        check.same("entries", court.entries(), 160);
        check.state("a 161st", court, () -> court.serve(1, 0));
        check.state("a 161st, by the court", court, () -> court.stay(0, false));
        check.same("the last", court.entryAt(159, 0), Courtdocket.SERVE);
        check.index("entry 160", court, () -> court.entryAt(160, 0));
        check.same("a seal makes none", court.seal(159, true), true);
    }

    @Says(at = "The docket", value = "Entries are numbered from 0, at most 160.")
    static void everyRowIsFull(Check check) {
        Courtdocket court = Scene.won(600);
        while (court.open(0) < 7) {
            court.holiday(500 + court.today());
            court.pass(1);
        }
        for (int claim = 1; claim < 24; claim++) {
            court.claim(0, 0, 1, 1000);
        }
        for (int day = 0; day < 24; day++) {
            court.holiday(600 + day);
        }
        for (int hearing = 0; hearing < 40; hearing++) {
            court.hearing(7, 700 + 7 * (hearing / 4), hearing % 4);
        }
        for (int exhibit = 0; exhibit < 12; exhibit++) {
            court.exhibit(7, exhibit);
        }
        Scene.fill(court, 7, 160);
        check.state("a case", court, () -> court.open(0));
        check.state("a claim", court, () -> court.claim(0, 0, 1, 1));
        check.state("a holiday", court, () -> court.holiday(1000));
        check.state("a hearing", court, () -> court.hearing(7, 990, 0));
        check.state("an exhibit", court, () -> court.exhibit(7, 0));
        check.state("an entry", court, () -> court.pay(0, 1));
        check.state("a case by severing", court, () -> court.sever(0));
        check.same("the state by docket", court.stateByDocket(0), Courtdocket.WON);
        check.same("the last claim by docket", court.stateByDocket(23), Courtdocket.PENDING);
        check.same("the balance", court.balance(0), 600);
        check.same("answered", court.isAnswered(0), true);
        check.same("the last claim is not", court.isAnswered(23), false);
        check.same("the deadline for an APPEAL", court.dueByDays(2, 0), 30);
        check.same("of the last claim for an answer", court.due(0, 23), -1);
        check.same("the last hearing goes on", court.continueHearing(39), 7640);
        check.same("a defect of the ANSWER", court.defect(1), court.due(3, 1));
    }

    @Says(at = "The docket", value = "An entry has a kind, a day, and is about a claim, or about a case")
    static void anEntryHasAKindADayAndIsAboutAClaim(Check check) {
        Courtdocket court = Scene.claims(3);
        court.open(0);
        Scene.pass(court, 900);
        court.serve(2, 1);
        court.stay(1, true);
        check.same("its kind", court.entryAt(0, 0), Courtdocket.SERVE);
        check.same("its day, the last one", court.entryAt(0, 1), 900);
        check.same("its claim", court.entryAt(0, 2), 2);
        check.same("the kind of the STAY", court.entryAt(1, 0), Courtdocket.STAY);
        check.same("its case", court.entryAt(1, 2), 1);
        court.sever(2);
        check.same("its claim, severed", court.entryAt(0, 2), 2);
    }

    @Says(at = "The docket", value = "in what follows an entry of a claim is one about it")
    static void aStayIsNoEntryOfTheClaimOfTheSameNumber(Check check) {
        Courtdocket court = Scene.claims(2);
        court.stay(0, true);
        court.stay(0, false);
        check.same("the claim 0 is not served", court.due(0, 0), -1);
        check.state("so it is not answered", court, () -> court.answer(0));
        court.serve(1, 0);
        check.state("nor by the SERVE of the claim 1", court, () -> court.answer(0));
        court.answer(1);
        check.same("the claim 0 is not answered", court.isAnswered(0), false);
        court.judge(1, 70);
        court.stay(0, true);
        check.state("the claim 0 has no order", court, () -> court.vacate(0));
        check.same("the latest order of the claim 1, behind the STAY", court.vacate(1), 6);
        check.same("is the JUDGEMENT", court.entryAt(6, 3), 4);
    }

    @Says(at = "The docket", value = "in what follows an entry of a claim is one about it")
    static void aStayIsNoOrderOfTheClaimOfTheSameNumber(Check check) {
        Courtdocket court = Scene.won(600);
        court.stay(0, true);
        check.same("the JUDGEMENT is the latest order, behind a STAY", court.vacate(0), 4);
        check.same("the JUDGEMENT", court.entryAt(4, 3), 2);
        court.judge(0, 500);
        court.stay(0, false);
        check.same("behind a LIFT", court.entryAt(court.vacate(0), 3), 5);
        court.judge(0, 400);
        court.appeal(0);
        court.decide(0, 0, 0);
        court.stay(0, true);
        court.stay(0, false);
        check.same("a STAY and a LIFT are no APPEALs", court.appeal(0), 13);
    }

    @Says(at = "The docket",
        value = "Kinds are 0 SERVE, 1 ANSWER, 2 MOTION, 3 RESPONSE, 4 RULING, 5 JUDGEMENT, 6 VACATE, 7 APPEAL, 8 "
            + "DECISION, 9 SETTLE, 10 PAY, 11 STAY, 12 LIFT.")
    static void kindsAre0To12(Check check) {
        Courtdocket court = Scene.claimed();
        Scene.everyKind(court, 0, 0);
        int[] kinds = {0, 2, 3, 4, 1, 5, 6, 5, 7, 8, 10, 9, 11, 12};
        for (int entry = 0; entry < kinds.length; entry++) {
            check.same("the kind of the entry " + entry, court.entryAt(entry, 0), kinds[entry]);
        }
        check.same("entries", court.entries(), kinds.length);
    }

    @Says(at = "The docket", value = "SERVE, by who claims, if the claim is PENDING and was not served.")
    static void serveOnce(Check check) {
        Courtdocket court = Scene.claims(2);
        check.same("not served", court.serve(0, 0), 0);
        check.state("served", court, () -> court.serve(0, 0));
        check.state("in no other way", court, () -> court.serve(0, 2));
        check.same("another claim", court.serve(1, 0), 1);
        court.sever(0);
        check.state("severed", court, () -> court.serve(0, 0));
        court.answer(0);
        court.judge(0, 10);
        court.vacate(0);
        check.state("vacated", court, () -> court.serve(0, 0));
        court.judge(0, 10);
        court.appeal(0);
        court.decide(0, 2, 10);
        check.state("sent back", court, () -> court.serve(0, 0));
        Courtdocket last = Scene.claimed();
        Scene.pass(last, 900);
        check.same("on the last day", last.serve(0, 2), 0);
        check.same("by way 2", last.due(0, 0), 928);
    }

    @Says(at = "The docket", value = "SERVE, by who claims, if the claim is PENDING and was not served.")
    static void servePending(Check check) {
        Courtdocket court = Scene.claims(2);
        court.settle(0);
        check.state("not PENDING", court, () -> court.serve(0, 0));
        check.same("the other one is", court.serve(1, 0), 1);
    }

    private static void noReply(Check check, String what, Courtdocket court) {
        check.state("ANSWER: " + what, court, () -> court.answer(0));
        check.state("MOTION: " + what, court, () -> court.motion(0));
    }

    /** Both replies are possible; the ANSWER is made. */
    private static void reply(Check check, String what, Courtdocket court) {
        int entries = court.entries();
        check.same("ANSWER: " + what, court.answer(0), entries);
    }

    private static void move(Check check, String what, Courtdocket court) {
        int entries = court.entries();
        check.same("MOTION: " + what, court.motion(0), entries);
    }

    @Says(at = "The docket", value = "ANSWER and MOTION, by whom it is against, if it is PENDING")
    static void repliesToPending(Check check) {
        Courtdocket granted = Scene.responded();
        granted.ruling(1, 0);
        noReply(check, "DISMISSED, not answered", granted);
        Courtdocket settled = Scene.served();
        settled.settle(0);
        noReply(check, "SETTLED, not answered", settled);
        Courtdocket court = Scene.served();
        court.open(1);
        court.stay(1, true);
        court.pass(30);
        court.stay(1, false);
        court.judge(0, -1);
        court.lead(0, 1);
        check.same("the deadline is ahead, for its leader was stayed", court.due(0, 0), 50);
        noReply(check, "WON, not answered", court);
        court.appeal(0);
        noReply(check, "APPEALED, not answered", court);
        court.decide(0, 2, 5);
        court.lead(0, -1);
        noReply(check, "sent back, late", court);
        court.lead(0, 1);
        reply(check, "sent back, PENDING", court);
        Courtdocket round = Scene.served();
        round.stay(0, true);
        round.pass(30);
        reply(check, "PENDING", round);
    }

    @Says(at = "The docket", value = "was served, is not answered")
    static void repliesToServed(Check check) {
        Courtdocket court = Scene.claims(2);
        noReply(check, "not served", court);
        court.serve(1, 0);
        noReply(check, "another claim was", court);
        court.serve(0, 0);
        reply(check, "served", court);
        Courtdocket moved = Scene.served();
        move(check, "served", moved);
    }

    @Says(at = "The docket", value = "was served, is not answered")
    static void repliesToUnanswered(Check check) {
        Courtdocket court = Scene.answered();
        noReply(check, "answered", court);
        court.defect(1);
        noReply(check, "answered, with a defect", court);
        court.pass(7);
        noReply(check, "on the last day for its cure", court);
        court.pass(1);
        reply(check, "the ANSWER counts no more", court);
        noReply(check, "answered again", court);
        Courtdocket cured = Scene.answered();
        cured.defect(1);
        cured.cure(1);
        cured.pass(8);
        noReply(check, "cured", cured);
        Courtdocket lapsed = Scene.answered();
        lapsed.defect(1);
        lapsed.pass(8);
        move(check, "the ANSWER counts no more", lapsed);
    }

    @Says(at = "The docket", value = "has no MOTION that is open")
    static void repliesWithoutAnOpenMotion(Check check) {
        Courtdocket court = Scene.moved();
        noReply(check, "open", court);
        court.defect(1);
        court.pass(7);
        noReply(check, "on the last day for its cure", court);
        court.pass(1);
        reply(check, "the MOTION counts no more", court);
        Courtdocket denied = Scene.responded();
        noReply(check, "open, with a RESPONSE", denied);
        denied.ruling(1, -1);
        move(check, "ruled on", denied);
        noReply(check, "the second one is open", denied);
        denied.respond(4);
        denied.ruling(4, 1);
        reply(check, "the second one, ruled on", denied);
    }

    @Says(at = "The docket", value = "and today is not behind its deadline for an answer")
    static void repliesInTime(Check check) {
        Courtdocket last = Scene.served();
        last.pass(21);
        reply(check, "on the last day", last);
        Courtdocket lastMotion = Scene.served();
        lastMotion.pass(21);
        move(check, "on the last day", lastMotion);
        Courtdocket late = Scene.served();
        late.pass(22);
        noReply(check, "a day behind it", late);
        check.same("it can be told", late.due(0, 0), 21);
        Courtdocket none = Scene.served();
        none.stay(0, true);
        none.pass(60);
        check.same("NONE", none.due(0, 0), -1);
        move(check, "no deadline", none);
        Courtdocket anew = Scene.moved();
        anew.pass(15);
        anew.ruling(1, -1);
        anew.pass(16);
        check.same("15 and 14 days, free ones behind them", anew.due(0, 0), 29);
        noReply(check, "late for AFTER", anew);
    }

    @Says(at = "The docket", value = "RESPONSE, by who claims, to a MOTION that is open")
    static void responseToAnOpenMotion(Check check) {
        Courtdocket court = Scene.moved();
        court.defect(1);
        court.pass(7);
        check.same("on the last day for its cure", court.respond(1), 2);
        Courtdocket lapsed = Scene.moved();
        lapsed.defect(1);
        lapsed.pass(8);
        check.state("it counts no more", lapsed, () -> lapsed.respond(1));
        Courtdocket ruled = Scene.responded();
        ruled.defect(2);
        ruled.pass(8);
        ruled.pass(7);
        ruled.ruling(1, 4);
        check.state("ruled on", ruled, () -> ruled.respond(1));
        ruled.vacate(0);
        check.state("ruled on, vacated", ruled, () -> ruled.respond(1));
        Courtdocket settled = Scene.moved();
        settled.settle(0);
        check.same("open, of a claim that is SETTLED", settled.respond(1), 3);
    }

    @Says(at = "The docket", value = "has none that counts")
    static void oneResponseThatCounts(Check check) {
        Courtdocket court = Scene.responded();
        check.state("it has one", court, () -> court.respond(1));
        court.defect(2);
        court.pass(7);
        check.state("one with a defect, on the last day for its cure", court, () -> court.respond(1));
        court.pass(1);
        check.same("one that counts no more", court.respond(1), 3);
        check.state("it has another one", court, () -> court.respond(1));
        Courtdocket cured = Scene.responded();
        cured.defect(2);
        cured.cure(2);
        cured.pass(8);
        check.state("one that was cured", cured, () -> cured.respond(1));
        Courtdocket two = Scene.claims(2);
        two.serve(0, 0);
        two.serve(1, 0);
        two.motion(0);
        two.motion(1);
        two.respond(2);
        check.same("another MOTION has none", two.respond(3), 5);
    }

    @Says(at = "The docket", value = "has none that counts, and today is not behind its deadline.")
    static void aResponseIsToOneOfTwoOpenMotions(Check check) {
        // The first MOTION counts again behind the second one, as its case is led by one that was stayed.
        Courtdocket court = Scene.moved();
        court.open(1);
        court.stay(1, true);
        court.defect(1);
        court.pass(8);
        court.motion(0);
        court.lead(0, 1);
        check.state("the second one is open", court, () -> court.motion(0));
        check.same("the first one is open again", court.respond(1), 4);
        check.state("no RULING on the second one", court, () -> court.ruling(3, -1));
        check.same("which has no RESPONSE yet", court.respond(3), 5);
        check.same("a RULING on it then", court.ruling(3, -1), 6);
        check.same("the first one is open still", court.due(0, 0), -1);
        check.state("so there is no ANSWER", court, () -> court.answer(0));
        check.same("a RULING on the first one", court.ruling(1, -1), 7);
        check.same("stayed without an end: no deadline", court.due(0, 0), -1);
        check.same("an ANSWER then", court.answer(0), 8);
    }

    /** The MOTION 2 of the claim 1, without a RESPONSE; the parts of other entries are the number 2, too. */
    private static Courtdocket movedAmongTwos() {
        Courtdocket court = Scene.claims(5);
        court.serve(0, 0);
        court.serve(1, 0);
        court.motion(1);
        court.serve(2, 2);
        court.answer(0);
        court.judge(0, 2);
        court.serve(3, 0);
        court.answer(3);
        court.judge(3, 30);
        court.pay(3, 2);
        court.appeal(0);
        court.decide(0, 2, 2);
        return court;
    }

    @Says(at = "The docket", value = "has none that counts, and today is not behind its deadline.")
    static void aResponseIsNoOtherEntry(Check check) {
        Courtdocket court = movedAmongTwos();
        check.state("no RULING without a RESPONSE", court, () -> court.ruling(2, -1));
        check.same("so it can have one", court.respond(2), court.entries() - 1);
        check.state("it has one then", court, () -> court.respond(2));
    }

    @Says(at = "The docket", value = "has none that counts, and today is not behind its deadline.")
    static void responseInTime(Check check) {
        Courtdocket last = Scene.moved();
        last.pass(14);
        check.same("on the last day", last.respond(1), 2);
        Courtdocket late = Scene.moved();
        late.pass(15);
        check.state("a day behind it", late, () -> late.respond(1));
    }

    @Says(at = "The docket", value = "has none that counts, and today is not behind its deadline.")
    static void responseInTimeOfAnExtendedDeadline(Check check) {
        Courtdocket extended = Scene.moved();
        extended.extend(1, 1, 1);
        extended.pass(15);
        check.same("on the day that was added", extended.respond(1), 2);
        Courtdocket none = Scene.moved();
        none.stay(0, true);
        none.pass(60);
        check.same("no deadline", none.respond(1), 3);
    }

    @Says(at = "The docket", value = "An entry that was made is valid")
    static void whatWasMadeIsValid(Check check) {
        Courtdocket court = Scene.claimed();
        Scene.everyKind(court, 0, 0);
        court.pass(60);
        for (int entry = 0; entry < court.entries(); entry++) {
            check.same("the entry " + entry + " counts", court.counts(entry), true);
        }
    }

    @Says(at = "The docket", value = "but an ANSWER, a MOTION or a RESPONSE can get a defect, once")
    static void aDefectOnce(Check check) {
        Courtdocket court = Scene.responded();
        court.ruling(1, -1);
        court.answer(0);
        for (int entry : new int[] {1, 2, 4}) {
            check.same("a defect of the entry " + entry, court.defect(entry), 7);
            check.state("a second one of the entry " + entry, court, () -> court.defect(entry));
            court.cure(entry);
            check.state("a second one of the entry " + entry + ", cured", court, () -> court.defect(entry));
        }
        Courtdocket lapsed = Scene.answered();
        lapsed.defect(1);
        lapsed.pass(8);
        check.state("a second one of an entry that counts no more", lapsed, () -> lapsed.defect(1));
    }

    @Says(at = "The docket", value = "but an ANSWER, a MOTION or a RESPONSE can get a defect, once")
    static void noDefectOfOthers(Check check) {
        Courtdocket court = Scene.claimed();
        Scene.everyKind(court, 0, 0);
        for (int entry : new int[] {0, 3, 5, 6, 7, 8, 9, 10, 11, 12, 13}) {
            check.state("the kind " + court.entryAt(entry, 0), court, () -> court.defect(entry));
        }
    }

    @Says(at = "The docket",
        value = "then it counts only if it was cured, or as long as today is not behind its deadline for that")
    static void itCountsUntilItsDeadline(Check check) {
        Courtdocket court = Scene.responded();
        court.ruling(1, -1);
        court.answer(0);
        for (int entry : new int[] {1, 2, 4}) {
            court.defect(entry);
        }
        court.pass(7);
        for (int entry : new int[] {1, 2, 4}) {
            check.same("the entry " + entry + " on the last day", court.counts(entry), true);
        }
        court.cure(2);
        court.pass(1);
        check.same("a MOTION a day behind it", court.counts(1), false);
        check.same("a RESPONSE, cured", court.counts(2), true);
        check.same("an ANSWER a day behind it", court.counts(4), false);
        court.pass(60);
        check.same("a RESPONSE, cured, later", court.counts(2), true);
        Courtdocket none = Scene.answered();
        none.defect(1);
        none.stay(0, true);
        none.pass(60);
        check.same("no deadline while stayed", none.counts(1), true);
    }

    @Says(at = "The docket", value = "All others count.")
    static void allOthersCount(Check check) {
        Courtdocket court = Scene.responded();
        court.defect(1);
        court.ruling(1, 500);
        court.vacate(0);
        court.pass(8);
        check.same("the SERVE", court.counts(0), true);
        check.same("the MOTION does not", court.counts(1), false);
        check.same("its RESPONSE", court.counts(2), true);
        check.same("its RULING, vacated", court.counts(3), true);
        check.same("the VACATE", court.counts(4), true);
    }

    @Says(at = "The docket", value = "A MOTION is open if it counts, and there is no RULING on it.")
    static void aMotionIsOpen(Check check) {
        Courtdocket court = Scene.moved();
        check.same("open: no deadline for an answer", court.due(0, 0), -1);
        court.defect(1);
        court.pass(7);
        check.same("open on the last day for its cure", court.due(0, 0), -1);
        court.pass(1);
        check.same("it counts no more", court.due(0, 0), 21);
        Courtdocket cured = Scene.moved();
        cured.defect(1);
        cured.cure(1);
        cured.pass(8);
        check.same("cured", cured.due(0, 0), -1);
        cured.respond(1);
        cured.ruling(1, -1);
        check.same("ruled on", cured.due(0, 0), 22);
    }

    @Says(at = "The docket", value = "A claim is answered if it has an ANSWER that counts.")
    static void aClaimIsAnswered(Check check) {
        Courtdocket court = Scene.claims(2);
        court.serve(0, 0);
        court.serve(1, 0);
        check.same("not yet", court.isAnswered(0), false);
        court.answer(0);
        check.same("by its ANSWER", court.isAnswered(0), true);
        check.same("another claim is not", court.isAnswered(1), false);
        court.defect(2);
        court.pass(7);
        check.same("by one that can be cured", court.isAnswered(0), true);
        court.pass(1);
        check.same("by none that counts", court.isAnswered(0), false);
        court.answer(0);
        check.same("by the second one", court.isAnswered(0), true);
        court.settle(0);
        check.same("SETTLED", court.isAnswered(0), true);
    }
}
