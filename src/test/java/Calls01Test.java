/** Promises 2 to 24: a call does what its first sentence says, to the thing of the number told, and to no other. */
public final class Calls01Test {
    private Calls01Test() {
    }

    public static void main(String[] args) {
        Sentences.run(Calls01Test.class);
    }

    // ---- days and rules

    @Says(at = "Promise 2", value = "Lets days pass.")
    static void p02LetsDaysPass(Check check) {
        Courtdocket court = Scene.threeClaims();
        check.same("it changes", View.changed(court, () -> court.pass(5)), "today");
        check.same("and again", View.changed(court, () -> court.pass(60)), "today");
        check.same("today", court.today(), 65);
    }

    @Says(at = "Promise 3", value = "Makes a day a holiday.")
    static void p03MakesADayAHoliday(Check check) {
        Courtdocket court = Scene.threeClaims();
        court.setRule(0, 8, false);
        court.serve(1, 0);
        court.setRule(0, 9, false);
        court.serve(2, 0);
        check.same("it changes", View.changed(court, () -> court.holiday(8)), "claim 1");
        check.same("what ended on it", court.due(0, 1), 9);
        check.same("a day on which nothing ends", View.changed(court, () -> court.holiday(10)), "");
        check.state("no hearing on it", court, () -> court.hearing(0, 8, 0));
        check.same("a hearing the day behind", court.hearing(0, 9, 0), 0);
        check.same("a hearing the day ahead", court.hearing(0, 7, 0), 1);
    }

    @Says(at = "Promise 4", value = "Sets a rule.")
    static void p04SetsARule(Check check) {
        int[] days = {21, 14, 30, 14, 5};
        for (int rule = 0; rule < 5; rule++) {
            int set = rule;
            Courtdocket court = Scene.threeServed();
            check.same("what began", View.changed(court, () -> court.setRule(set, 60, true)), "");
            for (int other = 0; other < 5; other++) {
                int before = other == rule ? 60 : days[other];
                check.same("the rule " + other, court.setRule(other, 1, false), before);
            }
        }
    }

    // ---- cases, parties, claims

    @Says(at = "Promise 5", value = "Opens a case.")
    static void p05OpensACase(Check check) {
        Courtdocket court = Scene.threeClaims();
        check.same("it changes", View.changed(court, () -> court.open(2)), "case 2");
        court.hearing(0, 1, 0);
        court.hearing(1, 1, 1);
        check.same("of no other judge", court.hearing(2, 1, 0), 2);
        check.same("without parties", court.join(2, 0, 0), 1);
    }

    @Says(at = "Promise 6", value = "Makes a person a party. `number`: the case")
    static void p06MakesAPersonAParty(Check check) {
        Courtdocket court = Scene.threeServed();
        court.seal(1, true);
        court.seal(2, true);
        check.same("what it may see", View.changed(court, () -> court.join(1, 9, 0)), "entry 2");
        check.same("by it", court.claim(1, 9, 1, 5), 3);
        check.state("not in the other case", court, () -> court.claim(0, 9, 1, 5));
        check.state("no other person", court, () -> court.claim(1, 8, 1, 5));
    }

    @Says(at = "Promise 7", value = "Lets a case be led by another one, or by none. `number`: the case")
    static void p07LetsACaseBeLed(Check check) {
        Courtdocket court = Scene.threeServed();
        court.open(2);
        court.stay(2, true);
        check.same("by one that is stayed", View.changed(court, () -> court.lead(1, 2)), "claim 2");
        check.same("it is stayed with it", court.due(0, 2), -1);
        check.same("by none", View.changed(court, () -> court.lead(1, -1)), "claim 2");
        check.same("it is not stayed", court.due(0, 2), 21);
        check.same("the other case", View.changed(court, () -> court.lead(0, 2)), "claim 0, claim 1");
    }

    @Says(at = "Promise 8",
        value = "Makes a claim. `number`: the case `from`: a party `against`: a party of the other side")
    static void p08MakesAClaim(Check check) {
        Courtdocket court = Scene.threeClaims();
        check.same("it changes", View.changed(court, () -> court.claim(1, 2, 0, 77)), "claim 3");
        check.same("the case", court.caseOf(3), 1);
        check.same("the amount", court.amountOf(3), 77);
        court.certify(3);
        check.state("who claims", court, () -> court.member(3, 2, false));
        check.same("against whom it is", court.member(3, 0, true), 2);
        check.same("severed, the two are its parties", court.sever(3), 2);
        check.same("and no other", court.join(2, 1, 1), 3);
        check.state("2 is on the side 1", court, () -> court.claim(2, 1, 2, 5));
        check.same("0 is on the side 0", court.claim(2, 1, 0, 5), 4);
    }

    @Says(at = "Promise 9", value = "Severs a claim. `claim`: its number")
    static void p09SeversAClaim(Check check) {
        Courtdocket court = Scene.threeServed();
        court.stay(0, true);
        check.same("it changes", View.changed(court, () -> court.sever(1)), "case 2, claim 1");
        check.same("the case", court.caseOf(1), 2);
        check.same("not stayed", court.due(0, 1), 21);
        check.same("the other one", court.due(0, 0), -1);
    }

    // ---- entries

    @Says(at = "Promise 10", value = "Serves a claim. `claim`: its number")
    static void p10ServesAClaim(Check check) {
        Courtdocket court = Scene.threeClaims();
        check.same("it changes", View.changed(court, () -> court.serve(1, 0)), "claim 1, entry 0");
        check.same("its deadline", court.due(0, 1), 21);
        check.same("the last one", View.changed(court, () -> court.serve(2, 0)), "claim 2, entry 1");
        check.same("the first one", View.changed(court, () -> court.serve(0, 0)), "claim 0, entry 2");
    }

    @Says(at = "Promise 11", value = "Answers a claim. `claim`: its number")
    static void p11AnswersAClaim(Check check) {
        Courtdocket court = Scene.threeServed();
        check.same("it changes", View.changed(court, () -> court.answer(1)), "claim 1, entry 3");
        check.same("it is answered", court.isAnswered(1), true);
        check.same("the last one", View.changed(court, () -> court.answer(2)), "claim 2, entry 4");
        check.same("the first one", View.changed(court, () -> court.answer(0)), "claim 0, entry 5");
    }

    @Says(at = "Promise 12", value = "Moves against a claim. `claim`: its number")
    static void p12MovesAgainstAClaim(Check check) {
        Courtdocket court = Scene.threeServed();
        check.same("it changes", View.changed(court, () -> court.motion(1)), "claim 1, entry 3");
        check.same("it holds the answer", court.due(0, 1), -1);
        check.same("the last one", View.changed(court, () -> court.motion(2)), "claim 2, entry 4");
        check.same("the first one", View.changed(court, () -> court.motion(0)), "claim 0, entry 5");
    }

    @Says(at = "Promise 13", value = "Responds to a MOTION.")
    static void p13RespondsToAMotion(Check check) {
        Courtdocket court = Scene.threeMoved();
        check.same("it changes", View.changed(court, () -> court.respond(4)), "entry 6");
        check.same("the claim", court.entryAt(6, 2), 1);
        check.state("no RULING on the first MOTION", court, () -> court.ruling(3, -1));
        check.state("no RULING on the last MOTION", court, () -> court.ruling(5, -1));
        check.same("a RULING on it", court.ruling(4, -1), 7);
    }

    @Says(at = "Promise 14", value = "Rules on a MOTION.")
    static void p14RulesOnAMotion(Check check) {
        Courtdocket court = Scene.threeMoved();
        court.respond(3);
        court.respond(4);
        court.respond(5);
        check.same("in part", View.changed(court, () -> court.ruling(4, 10)), "claim 1, entry 9");
        check.same("the amount", court.amountOf(1), 10);
        check.same("granted", View.changed(court, () -> court.ruling(5, 0)), "claim 2, entry 10");
        check.same("the state", court.stateOf(2), Courtdocket.DISMISSED);
        check.same("denied", View.changed(court, () -> court.ruling(3, -1)), "claim 0, entry 11");
        check.same("the deadline", court.due(0, 0), 14);
    }

    @Says(at = "Promise 15", value = "Gives judgement on a claim. `claim`: its number")
    static void p15GivesJudgement(Check check) {
        Courtdocket court = Scene.threeAnswered();
        check.same("it changes", View.changed(court, () -> court.judge(1, 600)), "claim 1, entry 6");
        check.same("the state", court.stateOf(1), Courtdocket.WON);
        check.same("the last one", View.changed(court, () -> court.judge(2, 0)), "claim 2, entry 7");
        check.same("the state of the last one", court.stateOf(2), Courtdocket.DISMISSED);
        Courtdocket late = Scene.threeServed();
        late.pass(30);
        check.same("by default", View.changed(late, () -> late.judge(1, -1)), "claim 1, entry 3");
    }

    @Says(at = "Promise 16", value = "Vacates the latest order on a claim. `claim`: its number")
    static void p16VacatesTheLatestOrder(Check check) {
        Courtdocket court = Scene.threeWon();
        check.same("it changes", View.changed(court, () -> court.vacate(1)), "claim 1, entry 9");
        check.same("the state", court.stateOf(1), Courtdocket.PENDING);
        check.same("the amount", court.amountOf(1), 1000);
        check.same("the last one", View.changed(court, () -> court.vacate(2)), "claim 2, entry 10");
        check.same("the first one", View.changed(court, () -> court.vacate(0)), "claim 0, entry 11");
    }

    @Says(at = "Promise 17", value = "Appeals a judgement. `claim`: its number")
    static void p17AppealsAJudgement(Check check) {
        Courtdocket court = Scene.threeWon();
        check.same("it changes", View.changed(court, () -> court.appeal(1)), "claim 1, entry 9");
        check.same("the state", court.stateOf(1), Courtdocket.APPEALED);
        check.same("the last one", View.changed(court, () -> court.appeal(2)), "claim 2, entry 10");
        check.same("the first one", View.changed(court, () -> court.appeal(0)), "claim 0, entry 11");
    }

    @Says(at = "Promise 18", value = "Decides an appeal. `claim`: its number")
    static void p18DecidesAnAppeal(Check check) {
        Courtdocket court = Scene.threeWon();
        court.appeal(0);
        court.appeal(1);
        court.appeal(2);
        check.same("it sends back", View.changed(court, () -> court.decide(1, 2, 9)), "claim 1, entry 12");
        check.same("the state of 1", court.stateOf(1), Courtdocket.PENDING);
        check.same("it turns round", View.changed(court, () -> court.decide(2, 1, 0)), "claim 2, entry 13");
        check.same("the state of 2", court.stateOf(2), Courtdocket.DISMISSED);
        check.same("it affirms", View.changed(court, () -> court.decide(0, 0, 0)), "claim 0, entry 14");
        check.same("the state of 0", court.stateOf(0), Courtdocket.WON);
    }

    @Says(at = "Promise 19", value = "Settles a claim. `claim`: its number")
    static void p19SettlesAClaim(Check check) {
        Courtdocket court = Scene.threeWon();
        check.same("it changes", View.changed(court, () -> court.settle(1)), "claim 1, entry 9");
        check.same("the state", court.stateOf(1), Courtdocket.SETTLED);
        check.same("the last one", View.changed(court, () -> court.settle(2)), "claim 2, entry 10");
        check.same("the first one", View.changed(court, () -> court.settle(0)), "claim 0, entry 11");
    }

    @Says(at = "Promise 20", value = "Pays on a claim. `claim`: its number")
    static void p20PaysOnAClaim(Check check) {
        Courtdocket court = Scene.threeWon();
        check.same("it changes", View.changed(court, () -> court.pay(1, 100)), "claim 1, entry 9");
        check.same("the balance", court.balance(1), 500);
        check.same("the last one", View.changed(court, () -> court.pay(2, 600)), "claim 2, entry 10");
        check.same("with nothing left", court.stateOf(2), Courtdocket.PAID);
    }

    @Says(at = "Promise 21", value = "Stays a case, or lifts its stay. `number`: the case")
    static void p21StaysACase(Check check) {
        Courtdocket court = Scene.threeServed();
        check.same("stays the last", View.changed(court, () -> court.stay(1, true)), "claim 2, entry 3");
        check.same("the deadline", court.due(0, 2), -1);
        check.same("stays the first", View.changed(court, () -> court.stay(0, true)), "claim 0, claim 1, entry 4");
        check.same("lifts the last", View.changed(court, () -> court.stay(1, false)), "claim 2, entry 5");
        check.same("the deadline again", court.due(0, 2), 21);
    }

    @Says(at = "Promise 22", value = "Tells that an entry has a defect.")
    static void p22TellsThatAnEntryHasADefect(Check check) {
        Courtdocket court = Scene.threeAnswered();
        check.same("it changes", View.changed(court, () -> court.defect(4)), "entry 4");
        check.same("its deadline", court.due(3, 4), 7);
        court.pass(7);
        check.same("a day behind that", View.changed(court, () -> court.pass(1)),
            "today, claim 1, entry 0, entry 1, entry 2, entry 3, entry 4, entry 5");
        check.same("it does not count", court.counts(4), false);
        check.same("the claim is not answered", court.isAnswered(1), false);
        check.same("the others do", court.counts(3) && court.counts(5), true);
    }

    @Says(at = "Promise 23", value = "Cures a defect. `entry`: the entry")
    static void p23CuresADefect(Check check) {
        Courtdocket court = Scene.threeAnswered();
        court.defect(3);
        court.defect(4);
        court.defect(5);
        check.same("while it counts all the same", View.changed(court, () -> court.cure(4)), "");
        court.pass(8);
        check.same("the first one", court.counts(3), false);
        check.same("that which was cured", court.counts(4), true);
        check.same("the last one", court.counts(5), false);
    }

    @Says(at = "Promise 24", value = "Extends a deadline.")
    static void p24ExtendsADeadline(Check check) {
        Courtdocket court = Scene.threeServed();
        check.same("for an answer", View.changed(court, () -> court.extend(0, 1, 1)), "claim 1");
        check.same("it is a day longer", court.due(0, 1), 22);
        Courtdocket moved = Scene.threeMoved();
        check.same("for a RESPONSE", View.changed(moved, () -> moved.extend(1, 4, 1)), "entry 4");
        check.same("it is longer", moved.due(1, 4), 15);
        Courtdocket won = Scene.threeWon();
        check.same("for an APPEAL", View.changed(won, () -> won.extend(2, 1, 1)), "claim 1");
        check.same("it is a day longer too", won.due(2, 1), 31);
    }
}
