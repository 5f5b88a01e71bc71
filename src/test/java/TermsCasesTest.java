/** What stands under "Cases, parties, claims". */
public final class TermsCasesTest {
    private TermsCasesTest() {
    }

    public static void main(String[] args) {
        Sentences.run(TermsCasesTest.class);
    }

    @Says(at = "Cases, parties, claims", value = "There are the persons 0 to 15 and the judges 0 to 2.")
    static void persons0To15(Check check) {
        Courtdocket court = Scene.cases(1);
        check.index("person", court, 0, 15, person -> court.join(0, person, 0));
        check.same("person 0", court.join(0, 0, 0), 1);
        check.same("person 1", court.join(0, 1, 1), 2);
        check.same("person 14", court.join(0, 14, 0), 3);
        check.same("person 15", court.join(0, 15, 1), 4);
        check.same("a claim by 15 against 0", court.claim(0, 15, 0, 5), 0);
        court.certify(0);
        check.same("15 is a member, 0 comes in", court.member(0, 0, true), 2);
        court.serve(0, 0);
        court.seal(0, true);
        check.same("14 may see", court.maySee(0, 14, 0), true);
        check.same("13 may not", court.maySee(0, 13, 0), false);
    }

    @Says(at = "Cases, parties, claims", value = "There are the persons 0 to 15 and the judges 0 to 2.")
    static void judges0To2(Check check) {
        Courtdocket court = new Courtdocket();
        check.index("judge", court, 0, 2, judge -> court.open(judge));
        for (int judge = 0; judge < 3; judge++) {
            check.same("judge " + judge, court.open(judge), judge);
        }
        for (int number = 0; number < 3; number++) {
            check.same("each has a judge of its own", court.hearing(number, 1, 0), number);
        }
    }

    @Says(at = "Cases, parties, claims", value = "Cases are numbered from 0, at most 8")
    static void casesAreAtMost8(Check check) {
        Courtdocket court = new Courtdocket();
        check.index("no case 0", court, () -> court.join(0, 0, 0));
        for (int number = 0; number < 8; number++) {
            check.same("case " + number, court.open(2), number);
        }
        check.state("a ninth", court, () -> court.open(2));
        check.same("the last one is there", court.join(7, 0, 0), 1);
        check.index("case 8", court, () -> court.join(8, 0, 0));
    }

    @Says(at = "Cases, parties, claims",
        value = "a case has a judge, and parties, which are persons, each on the side 0 or 1")
    static void eachPartyIsOnASide(Check check) {
        Courtdocket court = Scene.cases(2);
        check.index("side", court, 0, 1, side -> court.join(0, 3, side));
        court.join(0, 3, 0);
        court.join(0, 4, 1);
        court.join(1, 3, 1);
        court.join(1, 4, 0);
        check.state("a party is on one side alone", court, () -> court.join(0, 3, 1));
        check.same("sides are of the case", court.claim(1, 4, 3, 1), 0);
        court.join(0, 5, 1);
        check.state("4 and 5 are on one side", court, () -> court.claim(0, 4, 5, 1));
        Courtdocket none = Scene.cases(1);
        check.state("a case without parties has no claims", none, () -> none.claim(0, 0, 1, 1));
        check.same("the case of the judge 0", court.hearing(0, 1, 0), 0);
        check.same("the case of the judge 1, with the same parties", court.hearing(1, 1, 1), 1);
    }

    @Says(at = "Cases, parties, claims", value = "A case can be led by another one, which is led by none")
    static void whatLeadsIsLedByNone(Check check) {
        Courtdocket court = Scene.cases(4);
        check.same("1 by 0", court.lead(1, 0), -1);
        check.state("2 by 1, which is led", court, () -> court.lead(2, 1));
        check.same("2 by 0, too", court.lead(2, 0), -1);
        check.state("a case by itself", court, () -> court.lead(3, 3));
        court.lead(1, -1);
        check.same("3 by 1, which is led no more", court.lead(3, 1), -1);
    }

    @Says(at = "Cases, parties, claims", value = "one that leads others is not led")
    static void oneThatLeadsOthersIsNotLed(Check check) {
        Courtdocket court = Scene.cases(8);
        court.lead(7, 0);
        check.state("0 leads the last one", court, () -> court.lead(0, 1));
        court.lead(7, -1);
        check.same("0 leads none", court.lead(0, 1), -1);
        check.state("1 leads the first one", court, () -> court.lead(1, 2));
        check.same("1 by none, as it was", court.lead(1, -1), -1);
        check.same("one that is led by another one instead", court.lead(0, 2), 1);
        check.same("1 leads none then", court.lead(1, 3), -1);
    }

    @Says(at = "Cases, parties, claims", value = "Claims are numbered from 0, at most 24")
    static void claimsAreAtMost24(Check check) {
        Courtdocket court = Scene.opened();
        court.open(1);
        court.join(1, 0, 0);
        court.join(1, 1, 1);
        check.index("no claim 0", court, () -> court.stateOf(0));
        for (int claim = 0; claim < 24; claim++) {
            check.same("claim " + claim, court.claim(claim % 2, 0, 1, claim + 1), claim);
        }
        check.state("a 25th", court, () -> court.claim(0, 0, 1, 1));
        check.state("a 25th, in another case", court, () -> court.claim(1, 0, 1, 1));
        check.same("the last one", court.amountOf(23), 24);
        check.index("claim 24", court, () -> court.amountOf(24));
        court.settle(23);
        check.state("one that ended is counted", court, () -> court.claim(0, 0, 1, 1));
    }

    @Says(at = "Cases, parties, claims",
        value = "a claim is in a case, by a party against one of the other side, has an amount, and is PENDING, "
            + "DISMISSED, WON, APPEALED, SETTLED or PAID")
    static void aClaimHasACaseAnAmountAndAState(Check check) {
        Courtdocket court = Scene.cases(2);
        court.join(1, 4, 0);
        court.join(1, 5, 1);
        check.same("by the side 1 against the side 0", court.claim(1, 5, 4, 77), 0);
        check.same("its case", court.caseOf(0), 1);
        check.same("its amount", court.amountOf(0), 77);
        check.same("its state", court.stateOf(0), Courtdocket.PENDING);
        for (int state = 0; state < 6; state++) {
            check.same("the state " + state, Scene.inState(state).stateOf(0), state);
            check.same("the state " + state + " by docket", Scene.inState(state).stateByDocket(0), state);
        }
    }

    @Says(at = "Cases, parties, claims", value = "SETTLED and PAID are its end.")
    static void settledAndPaidAreItsEnd(Check check) {
        for (int state = 4; state < 6; state++) {
            Courtdocket court = Scene.inState(state);
            check.state("serve", court, () -> court.serve(0, 0));
            check.state("answer", court, () -> court.answer(0));
            check.state("motion", court, () -> court.motion(0));
            check.state("judge", court, () -> court.judge(0, 0));
            check.state("vacate", court, () -> court.vacate(0));
            check.state("appeal", court, () -> court.appeal(0));
            check.state("decide", court, () -> court.decide(0, 1, 0));
            check.state("settle", court, () -> court.settle(0));
            check.state("pay", court, () -> court.pay(0, 1));
            check.state("sever", court, () -> court.sever(0));
            check.state("certify", court, () -> court.certify(0));
        }
        for (int state = 0; state < 4; state++) {
            check.same("the state " + state + " is not: sever", Scene.inState(state).sever(0), 1);
        }
    }

    @Says(at = "Cases, parties, claims", value = "To sever a claim is to make a new case with the same judge")
    static void aSeveredClaimHasTheSameJudge(Check check) {
        for (int judge = 0; judge < 3; judge++) {
            Courtdocket court = new Courtdocket();
            court.open(judge);
            court.join(0, 0, 0);
            court.join(0, 1, 1);
            court.claim(0, 0, 1, 10);
            court.sever(0);
            for (int other = 0; other < 3; other++) {
                court.open(other);
                court.hearing(other + 2, 1, other);
            }
            int taken = judge;
            check.state("its judge " + judge + " is taken", court, () -> court.hearing(1, 1, taken));
            int free = (judge + 1) % 3;
            check.same("another judge is not", court.hearing(1, 1, free), 3);
        }
    }

    @Says(at = "Cases, parties, claims", value = "To sever a claim is to make a new case with the same judge")
    static void aSeveredClaimHasTheJudgeOfItsCaseNotOfItsLeader(Check check) {
        Courtdocket court = Scene.claimed();
        court.open(1);
        court.lead(0, 1);
        check.same("sever", court.sever(0), 2);
        court.hearing(1, 1, 0);
        check.same("the judge 0", court.hearing(2, 1, 0), 1);
        check.same("led by none", court.lead(2, -1), -1);
    }

    @Says(at = "Cases, parties, claims",
        value = "with the two parties of the claim on their sides, to which the claim comes")
    static void aSeveredClaimHasItsTwoParties(Check check) {
        Courtdocket court = Scene.opened();
        court.claim(0, 2, 0, 10);
        court.claim(0, 0, 1, 20);
        check.same("sever", court.sever(0), 1);
        check.same("the claim is there", court.caseOf(0), 1);
        check.same("the other is not", court.caseOf(1), 0);
        check.state("0 is a party", court, () -> court.join(1, 0, 1));
        check.state("2 is a party", court, () -> court.join(1, 2, 0));
        check.state("1 is none", court, () -> court.claim(1, 1, 0, 5));
        check.same("1 comes in as the third", court.join(1, 1, 0), 3);
        check.state("0 is on the side 0", court, () -> court.claim(1, 1, 0, 5));
        check.same("2 is on the side 1", court.claim(1, 1, 2, 5), 2);
        check.same("both are parties of the old case still", court.claim(0, 2, 0, 5), 3);
        check.same("its amount", court.amountOf(0), 10);
    }
}
