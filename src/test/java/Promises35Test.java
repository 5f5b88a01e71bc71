/** Promises 35 to 52: seal, maySee, certify, member, share, and what is asked. */
public final class Promises35Test {
    private Promises35Test() {
    }

    public static void main(String[] args) {
        Sentences.run(Promises35Test.class);
    }

    /** Two claims: the entries 0 and 1 serve them, 2 and 3 answer them. */
    private static Courtdocket answered() {
        Courtdocket court = Scene.claims(2);
        court.serve(0, 0);
        court.serve(1, 0);
        court.answer(0);
        court.answer(1);
        return court;
    }

    // ---- seal, maySee

    @Says(at = "Promise 35", value = "Seals an entry, or unseals it, from today on.")
    static void p35FromTodayOn(Check check) {
        Courtdocket court = Scene.served();
        court.pass(2);
        court.seal(0, true);
        court.pass(1);
        court.seal(0, false);
        check.same("the day ahead of the seal", court.maySee(0, 9, 1), true);
        check.same("its day", court.maySee(0, 9, 2), false);
        check.same("the day on which it is unsealed", court.maySee(0, 9, 3), true);
    }

    @Says(at = "Promise 35", value = "Returns whether it was not so.")
    static void p35ReturnsWhetherItWasNotSo(Check check) {
        Courtdocket court = Scene.answered();
        check.same("unseal, not sealed", court.seal(0, false), false);
        check.same("seal", court.seal(0, true), true);
        check.same("seal, sealed", court.seal(0, true), false);
        court.pass(1);
        check.same("seal, sealed the day ahead", court.seal(0, true), false);
        check.same("unseal", court.seal(0, false), true);
        check.same("unseal again", court.seal(0, false), false);
        check.same("another entry", court.seal(1, true), true);
    }

    @Says(at = "Promise 35", value = "Throws `IndexOutOfBoundsException` if there is no such entry")
    static void p35NoSuchEntry(Check check) {
        Courtdocket court = Scene.answered();
        Limits.noSuch(check, "entry", court, 2, (on, entry) -> on.seal(entry, true));
        Limits.noSuch(check, "entry", court, 2, (on, entry) -> on.seal(entry, false));
        check.same("the last one", court.seal(1, true), true);
        Courtdocket full = Scene.served();
        Scene.fill(full);
        check.index("entry 160", full, () -> full.seal(160, true));
        check.same("entry 159", full.seal(159, true), true);
    }

    @Says(at = "Promise 36", value = "`person`: 0 to 15")
    static void p36Person0To15(Check check) {
        Courtdocket court = Scene.served();
        court.join(0, 15, 1);
        court.seal(0, true);
        check.same("0", court.maySee(0, 0, 0), true);
        check.same("15", court.maySee(0, 15, 0), true);
        check.same("14", court.maySee(0, 14, 0), false);
    }

    @Says(at = "Promise 36", value = "`day`: 0 to today")
    static void p36Day0ToToday(Check check) {
        Courtdocket court = Scene.served();
        check.same("0, today", court.maySee(0, 9, 0), true);
        court.pass(4);
        check.same("0", court.maySee(0, 9, 0), true);
        check.same("1 ahead of today", court.maySee(0, 9, 3), true);
        check.same("today", court.maySee(0, 9, 4), true);
    }

    @Says(at = "Promise 36", value = "Returns whether the person may.")
    static void p36ReturnsWhetherThePersonMay(Check check) {
        Courtdocket court = Scene.claimed();
        court.pass(2);
        court.serve(0, 0);
        check.same("ahead of its day: a party", court.maySee(0, 0, 1), false);
        check.same("on its day: everybody", court.maySee(0, 9, 2), true);
        court.seal(0, true);
        check.same("sealed: not everybody", court.maySee(0, 9, 2), false);
        check.same("sealed: a party", court.maySee(0, 0, 2), true);
        check.same("sealed, ahead of its day: a party", court.maySee(0, 0, 1), false);
    }

    @Says(at = "Promise 36", value = "Throws `IndexOutOfBoundsException` if there is no such entry or person")
    static void p36NoSuchEntryOrPerson(Check check) {
        Courtdocket court = Scene.answered();
        Limits.noSuch(check, "entry", court, 2, (on, entry) -> on.maySee(entry, 0, 0));
        check.index("person", court, 0, 15, person -> court.maySee(1, person, 0));
    }

    @Says(at = "Promise 36", value = "Throws `IllegalArgumentException` if day is out of range")
    static void p36DayOutOfRange(Check check) {
        Courtdocket court = Scene.served();
        check.argument("day", court, 0, 0, day -> court.maySee(0, 0, day));
        court.pass(7);
        check.argument("day", court, 0, 7, day -> court.maySee(0, 0, day));
        Scene.pass(court, 893);
        check.argument("day", court, 0, 900, day -> court.maySee(0, 0, day));
    }

    // ---- certify, member, share

    @Says(at = "Promise 37", value = "Throws `IndexOutOfBoundsException` if there is no such claim")
    static void p37NoSuchClaim(Check check) {
        Courtdocket court = Scene.claims(2);
        Limits.noSuch(check, "claim", court, 2, (on, claim) -> on.certify(claim));
        court.certify(1);
        check.same("the last one", court.member(1, 0, true), 1);
        check.state("not the other one", court, () -> court.member(0, 0, true));
    }

    @Says(at = "Promise 37", value = "Throws `IllegalStateException` if it is one, or is not PENDING")
    static void p37NotMadeAClass(Check check) {
        Courtdocket court = Scene.claimed();
        court.certify(0);
        check.state("it is one", court, () -> court.certify(0));
        court.member(0, 5, true);
        check.state("it is one, with members", court, () -> court.certify(0));
        check.same("the members stay", court.member(0, 5, true), 2);
        for (int state = 1; state < 6; state++) {
            Courtdocket other = Scene.inState(state);
            check.state("in the state " + state, other, () -> other.certify(0));
        }
        Courtdocket back = Scene.appealed(5);
        back.decide(0, 2, 5);
        back.certify(0);
        check.state("PENDING again, then one", back, () -> back.certify(0));
    }

    @Says(at = "Promise 38", value = "`person`: 0 to 15")
    static void p38Person0To15(Check check) {
        Courtdocket court = Scene.opened();
        court.claim(0, 1, 0, 5);
        court.certify(0);
        check.same("0 in", court.member(0, 0, true), 2);
        check.same("15 in", court.member(0, 15, true), 3);
        check.same("0 out", court.member(0, 0, false), 2);
        check.same("15 out", court.member(0, 15, false), 1);
    }

    @Says(at = "Promise 38", value = "Returns how many members there are.")
    static void p38ReturnsHowMany(Check check) {
        Courtdocket court = Scene.claimed();
        court.certify(0);
        check.same("who claims", court.member(0, 0, true), 1);
        check.same("7 in", court.member(0, 7, true), 2);
        check.same("7 in again", court.member(0, 7, true), 2);
        check.same("8 out, never in", court.member(0, 8, false), 2);
        check.same("7 out", court.member(0, 7, false), 1);
        for (int person = 1; person < 16; person++) {
            check.same("in", court.member(0, person, true), person + 1);
        }
    }

    @Says(at = "Promise 38", value = "Throws `IndexOutOfBoundsException` if there is no such claim or person")
    static void p38NoSuchClaimOrPerson(Check check) {
        Courtdocket court = Scene.claims(2);
        court.certify(1);
        Limits.noSuch(check, "claim", court, 2, (on, claim) -> on.member(claim, 3, true));
        check.index("person in", court, 0, 15, person -> court.member(1, person, true));
        check.index("person out", court, 0, 15, person -> court.member(1, person, false));
        check.same("none came in", court.member(1, 3, true), 2);
    }

    @Says(at = "Promise 38",
        value = "Throws `IllegalStateException` if it is no class, is not PENDING, or who claims would go out")
    static void p38NoMember(Check check) {
        Courtdocket court = Scene.claims(2);
        court.certify(0);
        check.state("no class: in", court, () -> court.member(1, 3, true));
        check.state("no class: who claims", court, () -> court.member(1, 0, true));
        check.state("no class: out", court, () -> court.member(1, 3, false));
        check.state("who claims would go out", court, () -> court.member(0, 0, false));
        check.same("against whom it is comes in", court.member(0, 1, true), 2);
        check.same("and goes out", court.member(0, 1, false), 1);
        court.settle(0);
        check.state("SETTLED: in", court, () -> court.member(0, 3, true));
        check.state("SETTLED: who claims, in already", court, () -> court.member(0, 0, true));
    }

    @Says(at = "Promise 39", value = "`person`: 0 to 15")
    static void p39Person0To15(Check check) {
        Courtdocket court = Scene.answered();
        court.certify(0);
        court.member(0, 15, true);
        court.judge(0, 600);
        court.pay(0, 8);
        for (int person = 0; person < 16; person++) {
            check.same("the person " + person, court.share(0, person), person % 15 == 0 ? 4 : 0);
        }
    }

    @Says(at = "Promise 39", value = "Returns the share; 0 if it is no class, or the person is no member.")
    static void p39ReturnsTheShare(Check check) {
        Courtdocket court = answered();
        court.certify(0);
        court.member(0, 15, true);
        court.judge(0, 600);
        court.judge(1, 600);
        check.same("nothing is paid", court.share(0, 0), 0);
        court.pay(0, 1);
        court.pay(1, 600);
        check.same("1 by 2", court.share(0, 0), 0);
        court.pay(0, 1);
        check.same("2 by 2", court.share(0, 0), 1);
        check.same("of 15", court.share(0, 15), 1);
        court.pay(0, 598);
        check.same("PAID", court.share(0, 15), 300);
        check.same("no member", court.share(0, 1), 0);
        check.same("no class: who claims", court.share(1, 0), 0);
        check.same("no class: 15", court.share(1, 15), 0);
    }

    @Says(at = "Promise 39", value = "Throws `IndexOutOfBoundsException` if there is no such claim or person")
    static void p39NoSuchClaimOrPerson(Check check) {
        Courtdocket court = Scene.claims(2);
        Limits.noSuch(check, "claim", court, 2, (on, claim) -> on.share(claim, 0));
        check.index("person, no class", court, 0, 15, person -> court.share(1, person));
        court.certify(1);
        check.index("person", court, 0, 15, person -> court.share(1, person));
    }

    // ---- what is asked

    @Says(at = "Promise 40", value = "Returns today.")
    static void p40Today(Check check) {
        Courtdocket court = new Courtdocket();
        check.same("at first", court.today(), 0);
        court.pass(1);
        check.same("1", court.today(), 1);
        Scene.pass(court, 899);
        check.same("the last", court.today(), 900);
    }

    @Says(at = "Promise 41", value = "Returns how many entries there are.")
    static void p41Entries(Check check) {
        Courtdocket court = Scene.claimed();
        check.same("an empty docket", court.entries(), 0);
        court.serve(0, 0);
        check.same("1", court.entries(), 1);
        Scene.fill(court, 0, 159);
        check.same("159", court.entries(), 159);
        court.answer(0);
        check.same("160", court.entries(), 160);
        check.state("no more", court, () -> court.settle(0));
        check.same("160 still", court.entries(), 160);
    }

    @Says(at = "Promise 42",
        value = "`part`: 0 its kind, 1 its day, 2 the claim that it is about, or the case for a STAY or a LIFT")
    static void p42Parts0To2(Check check) {
        Courtdocket court = answered();
        court.open(0);
        court.pass(3);
        court.stay(1, true);
        court.pass(1);
        court.stay(1, false);
        int[][] due = {{0, 0, 0}, {0, 0, 1}, {1, 0, 0}, {1, 0, 1}, {11, 3, 1}, {12, 4, 1}};
        for (int entry = 0; entry < due.length; entry++) {
            for (int part = 0; part < 3; part++) {
                check.same("entry " + entry + ", part " + part, court.entryAt(entry, part), due[entry][part]);
            }
        }
    }

    @Says(at = "Promise 42",
        value = "3 the way of a SERVE, the MOTION of a RESPONSE, the amount of a RULING, as told, of a JUDGEMENT (of "
            + "one by default that with which the claim is WON), or of a PAY, the outcome of a DECISION, the entry "
            + "that a VACATE vacates, 0 for others; 4 the MOTION of a RULING, the cap of a DECISION that sends back, "
            + "0 for others")
    static void p42Parts3And4(Check check) {
        Courtdocket court = Scene.claims(2);
        court.serve(0, 0);
        court.serve(1, 2);
        court.motion(1);
        court.respond(2);
        court.ruling(2, 900);
        court.vacate(1);
        court.motion(1);
        court.respond(6);
        court.ruling(6, -1);
        court.answer(1);
        court.judge(1, 500);
        court.appeal(1);
        court.decide(1, 0, 77);
        court.appeal(1);
        court.decide(1, 2, 33);
        court.judge(1, 0);
        court.vacate(1);
        court.judge(1, 22);
        court.pay(1, 5);
        court.settle(1);
        court.stay(0, true);
        court.stay(0, false);
        int[][] due = {{0, 0}, {2, 0}, {0, 0}, {2, 0}, {900, 2}, {4, 0}, {0, 0}, {6, 0}, {-1, 6}, {0, 0}, {500, 0},
            {0, 0}, {0, 0}, {0, 0}, {2, 33}, {0, 0}, {15, 0}, {22, 0}, {5, 0}, {0, 0}, {0, 0}, {0, 0}};
        check.same("entries", court.entries(), due.length);
        for (int entry = 0; entry < due.length; entry++) {
            check.same("entry " + entry + ", part 3", court.entryAt(entry, 3), due[entry][0]);
            check.same("entry " + entry + ", part 4", court.entryAt(entry, 4), due[entry][1]);
        }
    }

    @Says(at = "Promise 42",
        value = "3 the way of a SERVE, the MOTION of a RESPONSE, the amount of a RULING, as told, of a JUDGEMENT (of "
            + "one by default that with which the claim is WON)")
    static void p42OfAJudgementByDefault(Check check) {
        Courtdocket court = Scene.served();
        court.pass(22);
        court.judge(0, -1);
        check.same("with its amount", court.entryAt(1, 3), 1000);
        court.appeal(0);
        court.decide(0, 2, 44);
        court.judge(0, -1);
        check.same("with its cap", court.entryAt(4, 3), 44);
        Courtdocket granted = Scene.responded();
        granted.ruling(1, 0);
        check.same("a RULING that was granted", granted.entryAt(3, 3), 0);
        Courtdocket round = Scene.appealed(600);
        round.decide(0, 1, 55);
        check.same("a DECISION that turns round", round.entryAt(4, 3), 1);
        check.same("tells no cap", round.entryAt(4, 4), 0);
    }

    @Says(at = "Promise 42",
        value = "Throws `IndexOutOfBoundsException` if there is no such entry, or part is not 0 to 4")
    static void p42NoSuchEntryOrPart(Check check) {
        Courtdocket court = Scene.answered();
        for (int part = 0; part < 5; part++) {
            int of = part;
            Limits.noSuch(check, "entry, part " + part, court, 2, (on, entry) -> on.entryAt(entry, of));
        }
        check.index("part of the first", court, 0, 4, part -> court.entryAt(0, part));
        check.index("part of the last", court, 0, 4, part -> court.entryAt(1, part));
        Courtdocket full = Scene.served();
        Scene.fill(full);
        check.same("the last of 160", full.entryAt(159, 0), Courtdocket.STAY);
        check.index("a 161st", full, () -> full.entryAt(160, 0));
    }

    @Says(at = "Promise 43", value = "Returns whether it does.")
    static void p43Counts(Check check) {
        Courtdocket court = Scene.answered();
        check.same("valid", court.counts(1), true);
        court.defect(1);
        check.same("it can be cured", court.counts(1), true);
        court.pass(7);
        check.same("on the last day", court.counts(1), true);
        court.pass(1);
        check.same("a day behind it", court.counts(1), false);
        check.same("another one", court.counts(0), true);
    }

    @Says(at = "Promise 43", value = "Throws `IndexOutOfBoundsException` if there is no such entry")
    static void p43NoSuchEntry(Check check) {
        Courtdocket court = Scene.answered();
        Limits.noSuch(check, "entry", court, 2, (on, entry) -> on.counts(entry));
        check.same("the last one", court.counts(1), true);
    }

    @Says(at = "Promise 44", value = "Returns PENDING to PAID.")
    static void p44StateOf(Check check) {
        for (int state = 0; state < 6; state++) {
            check.same("state", Scene.inState(state).stateOf(0), state);
        }
        check.same("an empty docket", Scene.claimed().stateOf(0), Courtdocket.PENDING);
    }

    @Says(at = "Promise 44", value = "Throws `IndexOutOfBoundsException` if there is no such claim")
    static void p44NoSuchClaim(Check check) {
        Courtdocket court = Scene.claims(24);
        Limits.noSuch(check, "claim", court, 24, (on, claim) -> on.stateOf(claim));
        check.same("the last one", court.stateOf(23), Courtdocket.PENDING);
    }

    @Says(at = "Promise 45", value = "Returns the same, by going through the docket from its beginning.")
    static void p45StateByDocket(Check check) {
        check.same("an empty docket", Scene.claimed().stateByDocket(0), Courtdocket.PENDING);
        Courtdocket court = Scene.claims(2);
        court.serve(1, 0);
        court.answer(1);
        int[] due = {Courtdocket.WON, Courtdocket.PENDING, Courtdocket.DISMISSED, Courtdocket.PENDING, Courtdocket.WON,
            Courtdocket.APPEALED, Courtdocket.WON, Courtdocket.APPEALED, Courtdocket.PENDING, Courtdocket.WON,
            Courtdocket.WON, Courtdocket.PAID};
        for (int step = 0; step < due.length; step++) {
            step(court, step);
            check.same("by docket at " + step, court.stateByDocket(1), due[step]);
            check.same("state at " + step, court.stateOf(1), due[step]);
            check.same("the other claim", court.stateByDocket(0), Courtdocket.PENDING);
        }
    }

    private static void step(Courtdocket court, int step) {
        switch (step) {
            case 0 -> court.judge(1, 100);
            case 2 -> court.judge(1, 0);
            case 1, 3 -> court.vacate(1);
            case 4 -> court.judge(1, 200);
            case 5, 7 -> court.appeal(1);
            case 6 -> court.decide(1, 0, 0);
            case 8 -> court.decide(1, 2, 150);
            case 9 -> court.judge(1, 150);
            case 10 -> court.pay(1, 149);
            default -> {
                court.pass(30);
                court.pay(1, 2);
            }
        }
    }

    @Says(at = "Promise 45", value = "Returns PENDING to PAID.")
    static void p45PendingToPaid(Check check) {
        for (int state = 0; state < 6; state++) {
            check.same("state", Scene.inState(state).stateByDocket(0), state);
        }
    }

    @Says(at = "Promise 45", value = "Throws `IndexOutOfBoundsException` if there is no such claim")
    static void p45NoSuchClaim(Check check) {
        Courtdocket court = Scene.claims(24);
        Limits.noSuch(check, "claim", court, 24, (on, claim) -> on.stateByDocket(claim));
        check.same("the last one", court.stateByDocket(23), Courtdocket.PENDING);
    }

    @Says(at = "Promise 46", value = "Returns the amount.")
    static void p46AmountOf(Check check) {
        Courtdocket court = Scene.responded();
        check.same("as claimed", court.amountOf(0), 1000);
        court.ruling(1, 1);
        check.same("by a RULING", court.amountOf(0), 1);
        court.vacate(0);
        check.same("vacated", court.amountOf(0), 1000);
        court.answer(0);
        court.judge(0, 999);
        check.same("by a JUDGEMENT", court.amountOf(0), 999);
        court.pass(30);
        court.pay(0, 9);
        check.same("interest and payments do not touch it", court.amountOf(0), 999);
    }

    @Says(at = "Promise 46", value = "Throws `IndexOutOfBoundsException` if there is no such claim")
    static void p46NoSuchClaim(Check check) {
        Courtdocket court = Scene.claims(24);
        Limits.noSuch(check, "claim", court, 24, (on, claim) -> on.amountOf(claim));
        check.same("the last one", court.amountOf(23), 1000);
    }

    @Says(at = "Promise 47", value = "Returns the balance.")
    static void p47Balance(Check check) {
        check.same("no JUDGEMENT", Scene.claimed().balance(0), 0);
        Courtdocket court = Scene.won(600);
        check.same("WON", court.balance(0), 600);
        court.pay(0, 599);
        check.same("less what was paid", court.balance(0), 1);
        court.pay(0, 1);
        check.same("PAID", court.balance(0), 0);
    }

    @Says(at = "Promise 47", value = "Throws `IndexOutOfBoundsException` if there is no such claim")
    static void p47NoSuchClaim(Check check) {
        Courtdocket court = Scene.claims(24);
        Limits.noSuch(check, "claim", court, 24, (on, claim) -> on.balance(claim));
        check.same("the last one", court.balance(23), 0);
    }

    @Says(at = "Promise 48", value = "Returns the case.")
    static void p48CaseOf(Check check) {
        Courtdocket court = Scene.claims(2);
        check.same("the first case", court.caseOf(1), 0);
        court.sever(1);
        check.same("severed", court.caseOf(1), 1);
        court.lead(1, 0);
        check.same("led by another one", court.caseOf(1), 1);
        for (int number = 2; number < 8; number++) {
            court.sever(1);
        }
        check.same("the last case", court.caseOf(1), 7);
        check.same("the other claim", court.caseOf(0), 0);
    }

    @Says(at = "Promise 48", value = "Throws `IndexOutOfBoundsException` if there is no such claim")
    static void p48NoSuchClaim(Check check) {
        Courtdocket court = Scene.claims(24);
        Limits.noSuch(check, "claim", court, 24, (on, claim) -> on.caseOf(claim));
        check.same("the last one", court.caseOf(23), 0);
    }

    @Says(at = "Promise 49", value = "Returns whether it is.")
    static void p49IsAnswered(Check check) {
        Courtdocket court = Scene.claims(2);
        court.serve(0, 0);
        court.serve(1, 0);
        check.same("not yet", court.isAnswered(1), false);
        court.motion(1);
        check.same("by a MOTION it is not", court.isAnswered(1), false);
        court.defect(2);
        court.pass(8);
        court.answer(1);
        check.same("by an ANSWER it is", court.isAnswered(1), true);
        check.same("the other claim", court.isAnswered(0), false);
    }

    @Says(at = "Promise 49", value = "Throws `IndexOutOfBoundsException` if there is no such claim")
    static void p49NoSuchClaim(Check check) {
        Courtdocket court = Scene.claims(24);
        Limits.noSuch(check, "claim", court, 24, (on, claim) -> on.isAnswered(claim));
        check.same("the last one", court.isAnswered(23), false);
    }

    // ---- deadlines

    @Says(at = "Promise 50", value = "`sort`: 0 for an answer, 1 for a RESPONSE, 2 for an APPEAL, 3 for a cure")
    static void p50Sort0To3(Check check) {
        sorts0To3(check, Courtdocket::due);
    }

    /** due, or dueByDays. */
    private interface Deadline {
        int of(Courtdocket court, int sort, int number);
    }

    private static void sorts0To3(Check check, Deadline due) {
        Courtdocket court = Scene.moved();
        court.setRule(4, 3, false);
        court.defect(1);
        check.same("0, with a MOTION that is open", due.of(court, 0, 0), -1);
        check.same("1", due.of(court, 1, 1), 14);
        check.same("2", due.of(court, 2, 0), -1);
        check.same("3", due.of(court, 3, 1), 3);
        court.pass(4);
        check.same("0", due.of(court, 0, 0), 21);
        check.same("2, WON", due.of(Scene.won(5), 2, 0), 30);
    }

    private static void theClaimTheMotionOrTheEntry(Check check, Deadline due) {
        Courtdocket court = Scene.claims(2);
        court.serve(1, 0);
        court.pass(1);
        court.serve(0, 0);
        check.same("the claim 0", due.of(court, 0, 0), 22);
        check.same("the claim 1", due.of(court, 0, 1), 21);
        court.motion(0);
        court.pass(1);
        court.motion(1);
        check.same("the MOTION 2", due.of(court, 1, 2), 15);
        check.same("the MOTION 3", due.of(court, 1, 3), 16);
        court.defect(3);
        check.same("the entry 3", due.of(court, 3, 3), 9);
        check.same("the entry 2", due.of(court, 3, 2), -1);
    }

    private static void noneIfThereIsNone(Check check, Deadline due) {
        Courtdocket court = Scene.claimed();
        check.same("not served", due.of(court, 0, 0), -1);
        check.same("not WON", due.of(court, 2, 0), -1);
        court.serve(0, 0);
        check.same("served", due.of(court, 0, 0), 21);
        check.same("no defect", due.of(court, 3, 0), -1);
        court.motion(0);
        check.same("a MOTION is open", due.of(court, 0, 0), -1);
        court.stay(0, true);
        check.same("stayed", due.of(court, 1, 1), -1);
        check.same("a defect while stayed", court.defect(1), -1);
        check.same("a cure while stayed", due.of(court, 3, 1), -1);
        court.stay(0, false);
        check.same("a cure", due.of(court, 3, 1), 7);
        check.same("of a LIFT", due.of(court, 3, 3), -1);
    }

    private static void noSuchDeadline(Check check, Deadline due) {
        Courtdocket court = Scene.moved();
        check.index("sort", court, 0, 3, sort -> due.of(court, sort, 0));
        Limits.noSuch(check, "claim for an answer", court, 1, (on, number) -> due.of(on, 0, number));
        Limits.noSuch(check, "claim for an APPEAL", court, 1, (on, number) -> due.of(on, 2, number));
        Limits.noSuch(check, "entry for a RESPONSE", court, 2, (on, number) -> due.of(on, 1, number));
        Limits.noSuch(check, "entry for a cure", court, 2, (on, number) -> due.of(on, 3, number));
        check.index("no MOTION, but a SERVE", court, () -> due.of(court, 1, 0));
        court.stay(0, true);
        check.index("no MOTION, but a STAY", court, () -> due.of(court, 1, 2));
        check.same("a STAY has no cure", due.of(court, 3, 2), -1);
    }

    @Says(at = "Promise 50", value = "`number`: the claim; for 1 the entry of the MOTION, for 3 the entry")
    static void p50TheClaimTheMotionOrTheEntry(Check check) {
        theClaimTheMotionOrTheEntry(check, Courtdocket::due);
    }

    @Says(at = "Promise 50", value = "Returns the day; NONE if there is none, or it has not begun.")
    static void p50NoneIfThereIsNone(Check check) {
        noneIfThereIsNone(check, Courtdocket::due);
    }

    @Says(at = "Promise 50",
        value = "Throws `IndexOutOfBoundsException` if sort is out of range, or there is no such claim, MOTION or "
            + "entry")
    static void p50NoSuchSortClaimMotionOrEntry(Check check) {
        noSuchDeadline(check, Courtdocket::due);
    }

    @Says(at = "Promise 51", value = "Returns the same, by going on day by day, and looking at each day anew.")
    static void p51TheSame(Check check) {
        Courtdocket court = Scene.claims(2);
        court.serve(0, 1);
        court.setRule(0, 9, true);
        court.serve(1, 2);
        court.holiday(9);
        court.open(1);
        court.pass(2);
        court.stay(0, true);
        court.pass(3);
        court.stay(0, false);
        court.stay(1, true);
        court.lead(0, 1);
        same(check, "led by one that is stayed", court, -1, -1);
        court.pass(4);
        court.stay(1, false);
        // The days 2 to 8 are stayed. 24 days: 1 and 9 to 31. 16 working days: 1, 10, 11, 14 to 18, 21 to 25, 28 to 30.
        same(check, "lifted", court, 31, 30);
        for (int day = 30; day <= 32; day++) {
            court.holiday(day);
        }
        same(check, "the last days are free", court, 35, 35);
        court.sever(0);
        same(check, "severed", court, 24, 35);
    }

    private static void same(Check check, String what, Courtdocket court, int first, int second) {
        check.same(what + ": 0 by days", court.dueByDays(0, 0), first);
        check.same(what + ": 1 by days", court.dueByDays(0, 1), second);
        check.same(what + ": 0", court.due(0, 0), first);
        check.same(what + ": 1", court.due(0, 1), second);
    }

    @Says(at = "Promise 51", value = "`sort`: 0 to 3")
    static void p51Sort0To3(Check check) {
        sorts0To3(check, Courtdocket::dueByDays);
    }

    @Says(at = "Promise 51", value = "`number`: as for due()")
    static void p51NumberAsForDue(Check check) {
        theClaimTheMotionOrTheEntry(check, Courtdocket::dueByDays);
    }

    @Says(at = "Promise 51", value = "Returns the day; NONE likewise.")
    static void p51NoneLikewise(Check check) {
        noneIfThereIsNone(check, Courtdocket::dueByDays);
    }

    @Says(at = "Promise 51", value = "Throws `IndexOutOfBoundsException` likewise")
    static void p51ThrowsLikewise(Check check) {
        noSuchDeadline(check, Courtdocket::dueByDays);
    }

    @Says(at = "Promise 52", value = "Returns 10 times its day, and its slot, together.")
    static void p52HearingAt(Check check) {
        Courtdocket court = Scene.cases(1);
        court.hearing(0, 1, 0);
        court.hearing(0, 990, 3);
        check.same("the first day", court.hearingAt(0), 10);
        check.same("the last day", court.hearingAt(1), 9903);
        court.continueHearing(0);
        check.same("continued", court.hearingAt(0), 20);
        court.pass(60);
        check.same("over", court.hearingAt(0), 20);
    }

    @Says(at = "Promise 52", value = "Throws `IndexOutOfBoundsException` if there is no such hearing")
    static void p52NoSuchHearing(Check check) {
        Courtdocket court = Scene.cases(1);
        court.hearing(0, 1, 0);
        court.hearing(0, 1, 1);
        Limits.noSuch(check, "hearing", court, 2, (on, hearing) -> on.hearingAt(hearing));
        check.same("the last one", court.hearingAt(1), 11);
    }

    // ---- which exception is thrown

    @Says(at = "Classes", value = "If several apply, the one that the throws clause names first is thrown.")
    static void orderOfSealsAndClasses(Check check) {
        Courtdocket court = Scene.inState(Courtdocket.SETTLED);
        check.index("maySee: no person, no day", court, () -> court.maySee(0, 16, 1));
        check.index("maySee: no entry, no day", court, () -> court.maySee(2, 0, -1));
        check.index("certify: no claim", court, () -> court.certify(1));
        check.index("member: no person, no class", court, () -> court.member(0, 16, true));
        check.index("member: no claim", court, () -> court.member(1, 0, true));
        check.index("share: no person, no class", court, () -> court.share(0, -1));
    }
}
