/** What stands under "Exhibits", "Seals" and "Classes". */
public final class TermsExhibitsTest {
    private TermsExhibitsTest() {
    }

    public static void main(String[] args) {
        Sentences.run(TermsExhibitsTest.class);
    }

    @Says(at = "Exhibits",
        value = "Exhibits are numbered from 0, at most 12; one is of a case, and in the hand of a person.")
    static void exhibitsAreAtMost12(Check check) {
        Courtdocket court = Scene.cases(2);
        check.index("no exhibit 0", court, () -> court.isAdmitted(0));
        for (int exhibit = 0; exhibit < 12; exhibit++) {
            check.same("exhibit " + exhibit, court.exhibit(exhibit % 2, exhibit), exhibit);
        }
        check.state("a 13th", court, () -> court.exhibit(0, 0));
        check.state("a 13th, in another case", court, () -> court.exhibit(1, 0));
        check.same("the last is there", court.hand(11, 11, 0), true);
        check.index("exhibit 12", court, () -> court.isAdmitted(12));
    }

    @Says(at = "Exhibits",
        value = "Exhibits are numbered from 0, at most 12; one is of a case, and in the hand of a person.")
    static void anExhibitIsInTheHandOfAPerson(Check check) {
        Courtdocket court = Scene.cases(1);
        check.index("person", court, 0, 15, person -> court.exhibit(0, person));
        court.exhibit(0, 0);
        court.exhibit(0, 15);
        check.same("of 0", court.hand(0, 0, 3), true);
        check.same("of 15, who is no party", court.hand(1, 15, 3), true);
    }

    @Says(at = "Exhibits",
        value = "It is handed from a person to another one; if it was not in the hand of the former, its chain is "
            + "broken for ever; it is in the hand of the latter then all the same.")
    static void anExhibitIsHandedOn(Check check) {
        Courtdocket court = Scene.cases(1);
        court.exhibit(0, 4);
        court.exhibit(0, 4);
        check.same("from 4 to 5", court.hand(0, 4, 5), true);
        check.same("from 5 to 0", court.hand(0, 5, 0), true);
        check.same("from 0 to 15", court.hand(0, 0, 15), true);
        check.same("whole", court.isAdmitted(0), true);
        check.same("from 14, who has it not", court.hand(0, 14, 2), false);
        check.same("broken", court.isAdmitted(0), false);
        check.same("from 2, who has it", court.hand(0, 2, 4), false);
        check.same("from 4, as at first", court.hand(0, 4, 5), false);
        check.same("broken for ever", court.isAdmitted(0), false);
        check.same("another one is whole", court.hand(1, 4, 5), true);
        check.same("and not in the hand of 4 then", court.hand(1, 4, 5), false);
    }

    @Says(at = "Exhibits", value = "A party of a side can object to it, once; the court sustains that, or not.")
    static void aSideObjectsOnce(Check check) {
        Courtdocket court = Scene.opened();
        court.exhibit(0, 0);
        court.exhibit(0, 0);
        for (int side = 0; side < 2; side++) {
            int of = side;
            check.state("the side " + side + " has not yet", court, () -> court.sustain(0, of, true));
            court.object(0, side);
            check.state("the side " + side + " has", court, () -> court.object(0, of));
            court.sustain(0, side, side == 0);
            check.state("and that was decided", court, () -> court.object(0, of));
            check.state("once, as it was", court, () -> court.sustain(0, of, of == 0));
            check.state("once, the other way", court, () -> court.sustain(0, of, of != 0));
        }
        court.object(1, 0);
        check.same("to another exhibit", court.isAdmitted(1), false);
    }

    @Says(at = "Exhibits",
        value = "It is admitted if its chain is not broken, and no side has objected, but for objections that were "
            + "not sustained.")
    static void anExhibitIsAdmitted(Check check) {
        // Of each side: 0 has not objected, 1 has, 2 it was sustained, 3 it was not sustained.
        for (int first = 0; first < 4; first++) {
            for (int second = 0; second < 4; second++) {
                Courtdocket court = Scene.opened();
                court.exhibit(0, 6);
                raise(court, 0, first);
                raise(court, 1, second);
                boolean isAdmitted = first % 3 == 0 && second % 3 == 0;
                check.same("objections " + first + " and " + second, court.isAdmitted(0), isAdmitted);
                court.hand(0, 6, 7);
                check.same("handed on", court.isAdmitted(0), isAdmitted);
                court.hand(0, 6, 7);
                check.same("broken", court.isAdmitted(0), false);
            }
        }
    }

    private static void raise(Courtdocket court, int side, int how) {
        if (how > 0) {
            court.object(0, side);
        }
        if (how > 1) {
            court.sustain(0, side, how == 2);
        }
    }

    // ---- Seals

    @Says(at = "Seals", value = "An entry can be sealed and unsealed.")
    static void anEntryIsSealedAndUnsealed(Check check) {
        Courtdocket court = Scene.answered();
        check.same("it was not", court.seal(0, true), true);
        check.same("9 may not see", court.maySee(0, 9, 0), false);
        check.same("another entry", court.maySee(1, 9, 0), true);
        check.same("it was", court.seal(0, false), true);
        check.same("9 may see", court.maySee(0, 9, 0), true);
        court.stay(0, true);
        check.same("a STAY", court.seal(2, true), true);
        check.same("9 may not see that", court.maySee(2, 9, 0), false);
    }

    @Says(at = "Seals", value = "On a day it is sealed if its last sealing or unsealing up to that day sealed it.")
    static void sealedUpToADay(Check check) {
        Courtdocket court = Scene.served();
        court.pass(2);
        court.seal(0, true);
        court.pass(2);
        court.seal(0, false);
        court.pass(2);
        court.seal(0, true);
        court.pass(1);
        boolean[] isSealed = {false, false, true, true, false, false, true, true};
        for (int day = 0; day < 8; day++) {
            check.same("sealed on " + day, !court.maySee(0, 9, day), isSealed[day]);
        }
        court.seal(0, false);
        court.seal(0, true);
        court.seal(0, false);
        check.same("the last of a day", court.maySee(0, 9, 7), true);
        check.same("the day ahead of it", court.maySee(0, 9, 6), false);
    }

    @Says(at = "Seals", value = "Who may see it on a day: everybody, from its own day on, if it is not sealed then")
    static void everybodyMaySeeWhatIsNotSealed(Check check) {
        Courtdocket court = Scene.claimed();
        court.pass(3);
        court.serve(0, 0);
        court.pass(3);
        for (int person = 0; person < 16; person++) {
            check.same("ahead of its day: " + person, court.maySee(0, person, 2), false);
            check.same("on its day: " + person, court.maySee(0, person, 3), true);
            check.same("today: " + person, court.maySee(0, person, 6), true);
        }
        check.same("on the first day", court.maySee(0, 0, 0), false);
    }

    @Says(at = "Seals", value = "if it is, who was a party of the case of its claim (or its case) by then")
    static void partiesMaySeeWhatIsSealed(Check check) {
        Courtdocket court = Scene.served();
        court.open(0);
        court.join(1, 9, 0);
        court.seal(0, true);
        court.stay(1, true);
        court.seal(1, true);
        court.pass(3);
        court.join(0, 10, 1);
        court.join(0, 15, 1);
        court.pass(1);
        for (int person = 0; person < 16; person++) {
            boolean isFirst = person < 3;
            boolean isLater = person == 10 || person == 15;
            check.same("on the day 0: " + person, court.maySee(0, person, 0), isFirst);
            check.same("the day ahead of joining: " + person, court.maySee(0, person, 2), isFirst);
            check.same("the day of joining: " + person, court.maySee(0, person, 3), isFirst || isLater);
            check.same("today: " + person, court.maySee(0, person, 4), isFirst || isLater);
            check.same("a STAY of the case 1: " + person, court.maySee(1, person, 0), person == 9);
        }
    }

    @Says(at = "Seals", value = "if it is, who was a party of the case of its claim (or its case) by then")
    static void partiesMaySeeEachKindOfEntry(Check check) {
        // The claim 1 is in the case 0; the case 1 has other parties.
        Courtdocket court = Scene.claims(2);
        court.open(1);
        court.join(1, 9, 0);
        Scene.everyKind(court, 1, 1);
        for (int entry = 0; entry < court.entries(); entry++) {
            court.seal(entry, true);
            boolean isOfCase1 = entry >= 12;
            String kind = "the kind " + court.entryAt(entry, 0);
            check.same(kind + ", a party of the case 0", court.maySee(entry, 2, 0), !isOfCase1);
            check.same(kind + ", a party of the case 1", court.maySee(entry, 9, 0), isOfCase1);
        }
    }

    @Says(at = "Seals",
        value = "the case in which the claim is now, whose parties by severing are such from that day on")
    static void partiesBySevering(Check check) {
        Courtdocket court = Scene.served();
        court.seal(0, true);
        court.stay(0, true);
        court.seal(1, true);
        court.pass(2);
        court.sever(0);
        court.pass(2);
        court.join(1, 12, 0);
        for (int person = 0; person < 16; person++) {
            boolean isOfClaim = person < 2;
            check.same("the day ahead of severing: " + person, court.maySee(0, person, 1), false);
            check.same("the day of severing: " + person, court.maySee(0, person, 2), isOfClaim);
            check.same("today: " + person, court.maySee(0, person, 4), isOfClaim || person == 12);
            check.same("a STAY of the old case: " + person, court.maySee(1, person, 0), person < 3);
        }
        court.sever(0);
        check.same("severed again: from that day on", court.maySee(0, 0, 3), false);
        check.same("severed again: today", court.maySee(0, 0, 4), true);
        check.same("severed again: 12 is in the case ahead", court.maySee(0, 12, 4), false);
    }

    // ---- Classes

    @Says(at = "Classes", value = "A claim can be made a class, as long as it is PENDING; who claims is a member.")
    static void aClassAsLongAsPending(Check check) {
        for (int state = 0; state < 6; state++) {
            Courtdocket court = Scene.inState(state);
            if (state == Courtdocket.PENDING) {
                court.certify(0);
                check.same("who claims is a member", court.member(0, 0, true), 1);
                check.same("against whom it is can come in", court.member(0, 1, true), 2);
            } else {
                check.state("in the state " + state, court, () -> court.certify(0));
            }
        }
        Courtdocket last = Scene.cases(1);
        last.join(0, 15, 1);
        last.join(0, 0, 0);
        last.claim(0, 15, 0, 10);
        last.certify(0);
        check.same("15 claims and is a member", last.member(0, 15, true), 1);
    }

    @Says(at = "Classes",
        value = "Persons can come in and go out as long as it is PENDING; who claims does not go out.")
    static void personsComeInAndGoOut(Check check) {
        Courtdocket court = Scene.claimed();
        court.certify(0);
        for (int person = 1; person < 16; person++) {
            check.same("in: " + person, court.member(0, person, true), person + 1);
        }
        check.same("in already", court.member(0, 15, true), 16);
        check.state("who claims does not go out", court, () -> court.member(0, 0, false));
        for (int person = 1; person < 16; person++) {
            check.same("out: " + person, court.member(0, person, false), 16 - person);
        }
        check.same("out already", court.member(0, 15, false), 1);
        check.state("nor alone", court, () -> court.member(0, 0, false));
    }

    @Says(at = "Classes",
        value = "Persons can come in and go out as long as it is PENDING; who claims does not go out.")
    static void membersOfWhatIsNotPendingStay(Check check) {
        Courtdocket court = Scene.answered();
        court.certify(0);
        court.member(0, 9, true);
        court.judge(0, 600);
        noMoves(check, "WON", court);
        court.appeal(0);
        noMoves(check, "APPEALED", court);
        court.decide(0, 2, 600);
        check.same("PENDING again: in", court.member(0, 8, true), 3);
        check.same("PENDING again: out", court.member(0, 9, false), 2);
        court.judge(0, 0);
        noMoves(check, "DISMISSED", court);
        court.vacate(0);
        court.settle(0);
        noMoves(check, "SETTLED", court);
    }

    private static void noMoves(Check check, String what, Courtdocket court) {
        check.state(what + ": in", court, () -> court.member(0, 7, true));
        check.state(what + ": in already", court, () -> court.member(0, 0, true));
        check.state(what + ": out", court, () -> court.member(0, 9, false));
    }

    @Says(at = "Classes", value = "The share of a member is what was paid on it, divided by the number of members.")
    static void theShareOfAMember(Check check) {
        for (int members : new int[] {2, 3, 15, 16}) {
            Courtdocket court = classOf(members);
            check.same("nothing is paid", court.share(0, 0), 0);
            court.pay(0, members - 1);
            check.same("less than 1 for each of " + members, court.share(0, 0), 0);
            court.pay(0, 1);
            check.same("1 for each of " + members, court.share(0, members - 1), 1);
            court.pay(0, 599 - members);
            check.same("all but 1, by " + members, court.share(0, 0), 599 / members);
            court.pay(0, 1);
            check.same("all, by " + members, court.share(0, members - 1), 600 / members);
        }
        Courtdocket alone = classOf(1);
        alone.pay(0, 7);
        check.same("who claims alone", alone.share(0, 0), 7);
        check.same("no member", alone.share(0, 1), 0);
    }

    /** The claim WON with 600, of the persons from 0 on. */
    private static Courtdocket classOf(int members) {
        Courtdocket court = Scene.answered();
        court.certify(0);
        for (int person = 1; person < members; person++) {
            court.member(0, person, true);
        }
        court.judge(0, 600);
        return court;
    }

    @Says(at = "Classes", value = "A call that throws an exception changes nothing.")
    static void aCallThatThrowsChangesNothing(Check check) {
        Courtdocket court = Scene.appealed(600);
        check.state("appeal", court, () -> court.appeal(0));
        check.argument("decide", court, () -> court.decide(0, 2, 601));
        check.index("stay", court, () -> court.stay(1, true));
        check.same("entries", court.entries(), 4);
        check.same("state", court.stateOf(0), Courtdocket.APPEALED);
        check.same("the next entry is as if they were not", court.decide(0, 2, 600), 4);
    }

    // ---- the constants

    @Says(at = "Classes", value = "`NONE = -1`: There is none.")
    static void noneIsMinus1(Check check) {
        check.same("NONE", Courtdocket.NONE, -1);
        check.same("no seat", Scene.cases(1).seat(0, 0), -1);
        check.same("no deadline", Scene.claimed().due(0, 0), -1);
        check.same("no leader", Scene.cases(1).lead(0, Courtdocket.NONE), -1);
    }

    @Says(at = "Classes",
        value = "`PENDING = 0, DISMISSED = 1, WON = 2, APPEALED = 3, SETTLED = 4, PAID = 5`: States of claims.")
    static void statesAre0To5(Check check) {
        int[] states = {Courtdocket.PENDING, Courtdocket.DISMISSED, Courtdocket.WON, Courtdocket.APPEALED,
            Courtdocket.SETTLED, Courtdocket.PAID};
        for (int state = 0; state < states.length; state++) {
            check.same("the state " + state, states[state], state);
        }
    }

    @Says(at = "Classes",
        value = "`SERVE = 0, ANSWER = 1, MOTION = 2, RESPONSE = 3, RULING = 4, JUDGEMENT = 5, VACATE = 6, APPEAL = 7, "
            + "DECISION = 8, SETTLE = 9, PAY = 10, STAY = 11, LIFT = 12`: Kinds of entries.")
    static void kindsAreConstants(Check check) {
        int[] kinds = {Courtdocket.SERVE, Courtdocket.ANSWER, Courtdocket.MOTION, Courtdocket.RESPONSE,
            Courtdocket.RULING, Courtdocket.JUDGEMENT, Courtdocket.VACATE, Courtdocket.APPEAL, Courtdocket.DECISION,
            Courtdocket.SETTLE, Courtdocket.PAY, Courtdocket.STAY, Courtdocket.LIFT};
        for (int kind = 0; kind < kinds.length; kind++) {
            check.same("the kind " + kind, kinds[kind], kind);
        }
    }
}
