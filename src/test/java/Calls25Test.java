/** Promises 25 to 52: a call does what its first sentence says, to the thing of the number told, and to no other. */
public final class Calls25Test {
    private Calls25Test() {
    }

    public static void main(String[] args) {
        Sentences.run(Calls25Test.class);
    }

    // ---- hearings

    @Says(at = "Promise 25", value = "Sets a hearing. `number`: the case")
    static void p25SetsAHearing(Check check) {
        Courtdocket court = Scene.cases(3);
        check.same("it changes", View.changed(court, () -> court.hearing(1, 3, 2)), "hearing 0");
        check.same("when it is", court.hearingAt(0), 32);
        check.same("a case of another judge", View.changed(court, () -> court.hearing(2, 3, 2)), "hearing 1");
        check.state("its own case", court, () -> court.hearing(1, 3, 2));
        court.open(1);
        check.state("a case of its judge", court, () -> court.hearing(3, 3, 2));
    }

    @Says(at = "Promise 26", value = "Continues a hearing. `hearing`: its number")
    static void p26ContinuesAHearing(Check check) {
        Courtdocket court = Scene.cases(1);
        court.hearing(0, 3, 1);
        court.hearing(0, 3, 2);
        court.hearing(0, 4, 0);
        check.same("it changes", View.changed(court, () -> court.continueHearing(1)), "hearing 1");
        check.same("when it is", court.hearingAt(1), 41);
        check.same("the last one", View.changed(court, () -> court.continueHearing(2)), "hearing 2");
        check.same("when the last one is", court.hearingAt(2), 70);
    }

    // ---- juries

    /** Strikes six jurors, from the first one told on, in the turns of the sides. */
    private static void strikeSix(Courtdocket court, int number, int first) {
        for (int strike = 0; strike < 6; strike++) {
            court.strike(number, strike % 2, first + strike);
        }
    }

    @Says(at = "Promise 27", value = "Strikes a juror. `number`: the case")
    static void p27StrikesAJuror(Check check) {
        Courtdocket court = Scene.cases(3);
        for (int strike = 0; strike < 5; strike++) {
            int juror = strike;
            court.strike(0, strike % 2, 5 + strike);
            check.same("a juror", View.changed(court, () -> court.strike(1, juror % 2, juror)), "");
        }
        check.same("the last one", View.changed(court, () -> court.strike(1, 1, 5)), "case 1");
        check.same("those that are left", court.seat(1, 0), 6);
        check.same("in the other case", View.changed(court, () -> court.strike(0, 1, 10)), "case 0");
        check.same("those that are left there", court.seat(0, 0), 0);
    }

    @Says(at = "Promise 28", value = "Dismisses a juror. `number`: the case")
    static void p28DismissesAJuror(Check check) {
        Courtdocket court = Scene.cases(3);
        strikeSix(court, 0, 8);
        strikeSix(court, 1, 8);
        check.same("it changes", View.changed(court, () -> court.dismiss(1, 3)), "case 1");
        check.same("the seat", court.seat(1, 3), 6);
        check.same("of the other case", court.seat(0, 3), 3);
        check.state("gone", court, () -> court.dismiss(1, 3));
        check.same("there yet", court.dismiss(0, 3), 6);
    }

    @Says(at = "Promise 29", value = "Returns who is in a seat. `number`: the case")
    static void p29ReturnsWhoIsInASeat(Check check) {
        Courtdocket court = Scene.cases(3);
        strikeSix(court, 0, 0);
        strikeSix(court, 1, 8);
        for (int seat = 0; seat < 7; seat++) {
            check.same("of the case 0", court.seat(0, seat), 6 + seat);
            check.same("of the case 1", court.seat(1, seat), seat);
            check.same("of the case 2", court.seat(2, seat), -1);
        }
    }

    // ---- exhibits

    /** Three exhibits of the case 0, in the hand of the person 4. */
    private static Courtdocket threeExhibits() {
        Courtdocket court = Scene.threeClaims();
        for (int exhibit = 0; exhibit < 3; exhibit++) {
            court.exhibit(0, 4);
        }
        return court;
    }

    @Says(at = "Promise 30", value = "Takes an exhibit in. `number`: the case")
    static void p30TakesAnExhibitIn(Check check) {
        Courtdocket court = Scene.threeClaims();
        check.same("it changes", View.changed(court, () -> court.exhibit(1, 4)), "exhibit 0");
        check.same("another one", View.changed(court, () -> court.exhibit(0, 5)), "exhibit 1");
        check.same("in whose hand the first one is", court.hand(0, 4, 0), true);
        check.same("in whose hand the other one is", court.hand(1, 5, 0), true);
    }

    @Says(at = "Promise 31", value = "Hands an exhibit over. `exhibit`: its number")
    static void p31HandsAnExhibitOver(Check check) {
        Courtdocket court = threeExhibits();
        check.same("rightly", View.changed(court, () -> court.hand(1, 4, 5)), "");
        check.same("the first one stays", court.hand(0, 4, 6), true);
        check.same("the last one stays", court.hand(2, 4, 6), true);
        check.same("wrongly", View.changed(court, () -> court.hand(1, 4, 5)), "exhibit 1");
    }

    @Says(at = "Promise 32", value = "Objects to an exhibit. `exhibit`: its number")
    static void p32ObjectsToAnExhibit(Check check) {
        Courtdocket court = threeExhibits();
        check.same("it changes", View.changed(court, () -> court.object(1, 1)), "exhibit 1");
        check.same("the other side", View.changed(court, () -> court.object(1, 0)), "");
        check.same("the last one", View.changed(court, () -> court.object(2, 0)), "exhibit 2");
        check.same("the first one", View.changed(court, () -> court.object(0, 1)), "exhibit 0");
    }

    @Says(at = "Promise 33", value = "Sustains an objection, or not. `exhibit`: its number")
    static void p33SustainsAnObjection(Check check) {
        Courtdocket court = threeExhibits();
        for (int exhibit = 0; exhibit < 3; exhibit++) {
            court.object(exhibit, 1);
        }
        check.same("not", View.changed(court, () -> court.sustain(1, 1, false)), "exhibit 1");
        check.same("sustained", View.changed(court, () -> court.sustain(2, 1, true)), "");
        check.state("already", court, () -> court.sustain(2, 1, false));
        check.same("the first one waits yet", View.changed(court, () -> court.sustain(0, 1, false)), "exhibit 0");
    }

    @Says(at = "Promise 34", value = "Tells whether an exhibit is admitted. `exhibit`: its number")
    static void p34TellsWhetherAdmitted(Check check) {
        Courtdocket court = threeExhibits();
        court.object(0, 0);
        court.hand(2, 3, 4);
        check.same("objected to", court.isAdmitted(0), false);
        check.same("neither", court.isAdmitted(1), true);
        check.same("broken", court.isAdmitted(2), false);
    }

    // ---- seals

    @Says(at = "Promise 35", value = "`entry`: its number `isSealed`: whether it is sealed")
    static void p35WhetherItIsSealed(Check check) {
        Courtdocket court = Scene.threeServed();
        check.same("sealed", View.changed(court, () -> court.seal(1, true)), "entry 1");
        check.same("not seen", court.maySee(1, 9, 0), false);
        check.same("another one", View.changed(court, () -> court.seal(2, true)), "entry 2");
        check.same("unsealed", View.changed(court, () -> court.seal(1, false)), "entry 1");
        check.same("seen", court.maySee(1, 9, 0), true);
        check.same("the first one is not sealed", View.changed(court, () -> court.seal(0, false)), "");
    }

    @Says(at = "Promise 36", value = "Tells whether a person may see an entry on a day. `entry`: its number")
    static void p36TellsWhetherAPersonMaySee(Check check) {
        Courtdocket court = Scene.threeClaims();
        court.serve(0, 0);
        court.pass(1);
        court.serve(1, 0);
        court.serve(2, 0);
        court.seal(2, true);
        check.same("0: everybody from the day 0 on", court.maySee(0, 9, 0), true);
        check.same("1: nobody on the day 0", court.maySee(1, 0, 0), false);
        check.same("1: everybody from the day 1 on", court.maySee(1, 9, 1), true);
        check.same("2: not everybody", court.maySee(2, 9, 1), false);
        check.same("2: a party", court.maySee(2, 2, 1), true);
    }

    // ---- classes

    @Says(at = "Promise 37", value = "Makes a claim a class. `claim`: its number")
    static void p37MakesAClaimAClass(Check check) {
        Courtdocket court = Scene.threeClaims();
        check.same("nothing is paid yet", View.changed(court, () -> court.certify(1)), "");
        check.state("the first one", court, () -> court.member(0, 3, true));
        check.same("it is one", court.member(1, 3, true), 2);
        check.state("the last one", court, () -> court.member(2, 3, true));
    }

    @Says(at = "Promise 38",
        value = "Lets a person come into a class, or go out. `claim`: its number `person`: 0 to 15 `isIn`: whether the "
            + "person is a member from now on")
    static void p38LetsAPersonComeIn(Check check) {
        Courtdocket court = Scene.threeAnswered();
        court.certify(1);
        court.certify(2);
        check.same("in", court.member(1, 7, true), 2);
        check.same("in, and another one", court.member(1, 8, true), 3);
        check.same("out", court.member(1, 7, false), 2);
        court.judge(1, 600);
        court.judge(2, 600);
        check.same("paid", View.changed(court, () -> court.pay(1, 100)), "claim 1, entry 8");
        check.same("in from then on", court.share(1, 8), 50);
        check.same("out from then on", court.share(1, 7), 0);
        court.pay(2, 100);
        check.same("in no other class", court.share(2, 8), 0);
        check.same("who claims there", court.share(2, 0), 100);
    }

    @Says(at = "Promise 39",
        value = "Returns the share of a person in what was paid on a claim. `claim`: its number")
    static void p39ReturnsTheShare(Check check) {
        Courtdocket court = Scene.threeAnswered();
        court.certify(1);
        court.member(1, 5, true);
        court.certify(2);
        for (int claim = 0; claim < 3; claim++) {
            court.judge(claim, 600);
            court.pay(claim, 100 + claim);
        }
        check.same("no class", court.share(0, 0), 0);
        check.same("of two members", court.share(1, 0), 50);
        check.same("the other one", court.share(1, 5), 50);
        check.same("of one", court.share(2, 0), 102);
        check.same("no member", court.share(2, 5), 0);
    }

    // ---- what is asked

    @Says(at = "Promise 42", value = "Returns a part of an entry. `entry`: its number")
    static void p42ReturnsAPartOfAnEntry(Check check) {
        Courtdocket court = Scene.threeClaims();
        court.serve(1, 2);
        court.pass(2);
        court.serve(0, 1);
        court.pass(1);
        court.motion(1);
        int[][] due = {{0, 0, 1, 2, 0}, {0, 2, 0, 1, 0}, {2, 3, 1, 0, 0}};
        for (int entry = 0; entry < 3; entry++) {
            for (int part = 0; part < 5; part++) {
                check.same("entry " + entry + ", part " + part, court.entryAt(entry, part), due[entry][part]);
            }
        }
    }

    @Says(at = "Promise 42", value = "Returns as told.")
    static void p42ReturnsAsTold(Check check) {
        Courtdocket court = Scene.threeClaims();
        Scene.everyKind(court, 2, 1);
        int[] kinds = {0, 2, 3, 4, 1, 5, 6, 5, 7, 8, 10, 9, 11, 12};
        int[] third = {0, 0, 1, 500, 0, 400, 5, 300, 0, 0, 10, 0, 0, 0};
        int[] fourth = {0, 0, 0, 1, 0, 0, 0, 0, 0, 0, 0, 0, 0, 0};
        for (int entry = 0; entry < kinds.length; entry++) {
            check.same("the kind of " + entry, court.entryAt(entry, 0), kinds[entry]);
            check.same("the day of " + entry, court.entryAt(entry, 1), 0);
            check.same("what " + entry + " is about", court.entryAt(entry, 2), kinds[entry] < 11 ? 2 : 1);
            check.same("part 3 of " + entry, court.entryAt(entry, 3), third[entry]);
            check.same("part 4 of " + entry, court.entryAt(entry, 4), fourth[entry]);
        }
    }

    @Says(at = "Promise 43", value = "Tells whether an entry counts. `entry`: its number")
    static void p43TellsWhetherAnEntryCounts(Check check) {
        Courtdocket court = Scene.threeAnswered();
        court.defect(4);
        court.defect(5);
        court.cure(5);
        court.pass(20);
        for (int entry = 0; entry < 6; entry++) {
            check.same("entry " + entry, court.counts(entry), entry != 4);
        }
    }

    /** The claim 0 is WON over 600, with 20 days since, 1 is DISMISSED, 2 is PENDING, not answered, and severed. */
    private static Courtdocket threeUnlike() {
        Courtdocket court = Scene.threeServed();
        court.answer(0);
        court.answer(1);
        court.judge(0, 600);
        court.judge(1, 0);
        court.sever(2);
        court.pass(20);
        return court;
    }

    @Says(at = "Promise 44", value = "Returns the state of a claim. `claim`: its number")
    static void p44ReturnsTheState(Check check) {
        Courtdocket court = threeUnlike();
        check.same("0", court.stateOf(0), Courtdocket.WON);
        check.same("1", court.stateOf(1), Courtdocket.DISMISSED);
        check.same("2", court.stateOf(2), Courtdocket.PENDING);
    }

    @Says(at = "Promise 45", value = "`claim`: its number")
    static void p45ReturnsTheStateByDocket(Check check) {
        Courtdocket court = threeUnlike();
        check.same("0", court.stateByDocket(0), Courtdocket.WON);
        check.same("1", court.stateByDocket(1), Courtdocket.DISMISSED);
        check.same("2", court.stateByDocket(2), Courtdocket.PENDING);
    }

    @Says(at = "Promise 46", value = "Returns the amount of a claim. `claim`: its number")
    static void p46ReturnsTheAmount(Check check) {
        Courtdocket court = threeUnlike();
        court.claim(0, 0, 2, 7);
        check.same("0", court.amountOf(0), 600);
        check.same("2", court.amountOf(2), 1000);
        check.same("3", court.amountOf(3), 7);
    }

    @Says(at = "Promise 47", value = "Returns the balance of a claim. `claim`: its number")
    static void p47ReturnsTheBalance(Check check) {
        Courtdocket court = threeUnlike();
        court.pass(10);
        check.same("0", court.balance(0), 606);
        check.same("1", court.balance(1), 0);
        check.same("2", court.balance(2), 0);
        court.judge(2, -1);
        check.same("2, WON now", court.balance(2), 1000);
    }

    @Says(at = "Promise 48", value = "Returns the case of a claim. `claim`: its number")
    static void p48ReturnsTheCase(Check check) {
        Courtdocket court = threeUnlike();
        court.claim(1, 0, 2, 7);
        check.same("0", court.caseOf(0), 0);
        check.same("1", court.caseOf(1), 0);
        check.same("2", court.caseOf(2), 2);
        check.same("3", court.caseOf(3), 1);
    }

    @Says(at = "Promise 49", value = "Tells whether a claim is answered. `claim`: its number")
    static void p49TellsWhetherAnswered(Check check) {
        Courtdocket court = threeUnlike();
        check.same("0", court.isAnswered(0), true);
        check.same("1", court.isAnswered(1), true);
        check.same("2", court.isAnswered(2), false);
    }

    @Says(at = "Promise 50", value = "Returns a deadline.")
    static void p50ReturnsADeadline(Check check) {
        Courtdocket court = Scene.threeServed();
        court.motion(1);
        court.setRule(4, 3, false);
        court.defect(3);
        check.same("for an answer", court.due(0, 2), 21);
        check.same("for a RESPONSE", court.due(1, 3), 14);
        check.same("for an APPEAL", threeUnlike().due(2, 0), 30);
        check.same("for a cure", court.due(3, 3), 3);
        check.same("held by a MOTION", court.due(0, 1), -1);
    }

    @Says(at = "Promise 52", value = "Returns when a hearing is. `hearing`: its number")
    static void p52ReturnsWhenAHearingIs(Check check) {
        Courtdocket court = Scene.cases(2);
        court.hearing(0, 3, 1);
        court.hearing(1, 990, 3);
        court.hearing(0, 8, 0);
        check.same("0", court.hearingAt(0), 31);
        check.same("1", court.hearingAt(1), 9903);
        check.same("2", court.hearingAt(2), 80);
    }
}
