/** Promises 14 to 20, 44, 45 and 47: ruling, judge, vacate, appeal, decide, settle, pay, stateOf, balance. */
public final class OrdersTest {
    private static final Check CHECK = new Check("OrdersTest");

    private OrdersTest() {
    }

    public static void main(String[] args) {
        ruling();
        rulingInTime();
        judge();
        judgeByDefault();
        cap();
        vacate();
        vacateRuling();
        appeal();
        appealTwice();
        decide();
        settle();
        pay();
        interest();
        CHECK.end();
    }

    /** The state by both ways of asking. */
    private static void state(String what, Courtdocket court, int due) {
        CHECK.same(what + ": stateOf", court.stateOf(0), due);
        CHECK.same(what + ": stateByDocket", court.stateByDocket(0), due);
    }

    private static Courtdocket responded() {
        Courtdocket court = Scene.moved();
        court.respond(1);
        return court;
    }

    private static void ruling() {
        Courtdocket court = responded();
        CHECK.index("entry 3", court, () -> court.ruling(3, 0));
        CHECK.index("entry -1", court, () -> court.ruling(-1, 0));
        CHECK.index("a RESPONSE", court, () -> court.ruling(2, 0));
        CHECK.argument("-2", court, () -> court.ruling(1, -2));
        CHECK.argument("not lesser", court, () -> court.ruling(1, 1000));
        CHECK.argument("MAX", court, () -> court.ruling(1, Integer.MAX_VALUE));
        CHECK.same("in part", court.ruling(1, 999), 3);
        CHECK.same("the lesser amount", court.amountOf(0), 999);
        state("in part", court, 0);
        CHECK.state("ruled on", court, () -> court.ruling(1, 5));
        CHECK.argument("range ahead of the state", court, () -> court.ruling(1, 999));
        Courtdocket granted = responded();
        CHECK.same("granted", granted.ruling(1, 0), 3);
        state("granted", granted, 1);
        CHECK.same("its amount", granted.amountOf(0), 1000);
        Courtdocket denied = responded();
        CHECK.same("denied", denied.ruling(1, -1), 3);
        state("denied", denied, 0);
        CHECK.same("denied: its amount", denied.amountOf(0), 1000);
        Courtdocket least = responded();
        least.ruling(1, 1);
        CHECK.same("at least 1", least.amountOf(0), 1);
        Courtdocket settled = responded();
        settled.settle(0);
        CHECK.state("not PENDING", settled, () -> settled.ruling(1, 0));
    }

    private static void rulingInTime() {
        Courtdocket court = Scene.moved();
        CHECK.state("without a RESPONSE", court, () -> court.ruling(1, 0));
        court.pass(14);
        CHECK.state("on the last day for it", court, () -> court.ruling(1, 0));
        court.pass(1);
        CHECK.same("behind it", court.ruling(1, 0), 2);
        Courtdocket lapsed = responded();
        lapsed.defect(2);
        lapsed.pass(8);
        CHECK.state("a RESPONSE that counts no more", lapsed, () -> lapsed.ruling(1, 0));
        Courtdocket closed = responded();
        closed.defect(1);
        closed.pass(8);
        CHECK.state("a MOTION that counts no more", closed, () -> closed.ruling(1, 0));
    }

    private static void judge() {
        Courtdocket court = Scene.served();
        CHECK.index("claim 1", court, () -> court.judge(1, 0));
        CHECK.index("claim -1", court, () -> court.judge(-1, 0));
        CHECK.argument("-2", court, () -> court.judge(0, -2));
        CHECK.argument("1001", court, () -> court.judge(0, 1001));
        CHECK.state("not answered", court, () -> court.judge(0, 10));
        court.answer(0);
        CHECK.same("judge", court.judge(0, 600), 2);
        state("WON", court, 2);
        CHECK.same("with this amount", court.amountOf(0), 600);
        CHECK.state("WON already", court, () -> court.judge(0, 600));
        CHECK.argument("above the amount now", court, () -> court.judge(0, 601));
        Courtdocket nothing = Scene.answered();
        CHECK.same("0", nothing.judge(0, 0), 2);
        state("DISMISSED", nothing, 1);
        CHECK.same("its amount stays", nothing.amountOf(0), 1000);
        CHECK.same("its balance", nothing.balance(0), 0);
        Courtdocket all = Scene.answered();
        all.judge(0, 1000);
        CHECK.same("the whole amount", all.amountOf(0), 1000);
    }

    private static void judgeByDefault() {
        Courtdocket court = Scene.served();
        court.pass(21);
        CHECK.state("on the last day", court, () -> court.judge(0, -1));
        court.pass(1);
        CHECK.same("behind it", court.judge(0, -1), 1);
        state("WON", court, 2);
        CHECK.same("with its amount", court.amountOf(0), 1000);
        Courtdocket notServed = Scene.claimed();
        notServed.pass(60);
        CHECK.state("not served", notServed, () -> notServed.judge(0, -1));
        Courtdocket answered = Scene.answered();
        answered.pass(60);
        CHECK.state("answered", answered, () -> answered.judge(0, -1));
        Courtdocket moved = Scene.moved();
        moved.pass(60);
        CHECK.state("a MOTION is open", moved, () -> moved.judge(0, -1));
        moved.ruling(1, -1);
        CHECK.state("a new deadline", moved, () -> moved.judge(0, -1));
        moved.pass(15);
        CHECK.same("behind that", moved.judge(0, -1), 3);
        Courtdocket stayed = Scene.served();
        stayed.stay(0, true);
        stayed.pass(60);
        CHECK.state("no deadline while stayed", stayed, () -> stayed.judge(0, -1));
        Courtdocket lapsed = Scene.answered();
        lapsed.defect(1);
        lapsed.pass(22);
        CHECK.same("an ANSWER that counts no more", lapsed.judge(0, -1), 2);
    }

    private static void cap() {
        Courtdocket court = Scene.appealed(600);
        court.decide(0, 2, 300);
        CHECK.same("the amount ahead of the JUDGEMENT", court.amountOf(0), 1000);
        CHECK.argument("above the amount", court, () -> court.judge(0, 1001));
        CHECK.state("above the cap", court, () -> court.judge(0, 301));
        CHECK.same("up to the cap", court.judge(0, 300), 5);
        state("WON", court, 2);
        court.vacate(0);
        CHECK.state("the cap holds still", court, () -> court.judge(0, 301));
        court.judge(0, 299);
        CHECK.same("299", court.amountOf(0), 299);

        Courtdocket byDefault = Scene.served();
        byDefault.pass(22);
        byDefault.judge(0, -1);
        byDefault.appeal(0);
        byDefault.decide(0, 2, 40);
        byDefault.judge(0, -1);
        CHECK.same("by default: the cap", byDefault.amountOf(0), 40);
        CHECK.same("by default: as told", byDefault.entryAt(4, 3), 40);
        byDefault.appeal(0);
        byDefault.decide(0, 2, 0);
        CHECK.same("sent back: the amount ahead", byDefault.amountOf(0), 1000);
        CHECK.state("a cap of 0", byDefault, () -> byDefault.judge(0, -1));

        Courtdocket nothing = Scene.appealed(600);
        nothing.decide(0, 2, 0);
        CHECK.state("a cap of 0, and 1", nothing, () -> nothing.judge(0, 1));
        nothing.judge(0, 0);
        state("a cap of 0, and 0", nothing, 1);
    }

    private static void vacate() {
        Courtdocket court = Scene.answered();
        CHECK.index("claim 1", court, () -> court.vacate(1));
        CHECK.index("claim -1", court, () -> court.vacate(-1));
        CHECK.state("no order", court, () -> court.vacate(0));
        court.judge(0, 600);
        CHECK.same("a JUDGEMENT", court.vacate(0), 3);
        state("vacated", court, 0);
        CHECK.same("its amount", court.amountOf(0), 1000);
        CHECK.same("its balance", court.balance(0), 0);
        CHECK.state("not twice", court, () -> court.vacate(0));
        court.judge(0, 0);
        court.vacate(0);
        state("a JUDGEMENT of 0", court, 0);
        court.judge(0, 700);
        court.appeal(0);
        CHECK.state("an APPEAL", court, () -> court.vacate(0));
        court.decide(0, 0, 0);
        CHECK.state("a DECISION", court, () -> court.vacate(0));
        court.appeal(0);
        court.decide(0, 2, 500);
        court.judge(0, 400);
        court.vacate(0);
        state("sent back, judged, vacated", court, 0);
        CHECK.same("the amount then", court.amountOf(0), 1000);
        CHECK.state("the DECISION is the latest", court, () -> court.vacate(0));
        court.judge(0, 400);
        court.pay(0, 1);
        CHECK.state("a PAY", court, () -> court.vacate(0));
        court.settle(0);
        CHECK.state("a SETTLE", court, () -> court.vacate(0));
    }

    private static void vacateRuling() {
        Courtdocket court = responded();
        court.ruling(1, 400);
        court.motion(0);
        court.respond(4);
        court.ruling(4, 0);
        CHECK.same("granted", court.vacate(0), 7);
        state("granted, vacated", court, 0);
        CHECK.same("the amount ahead of it", court.amountOf(0), 400);
        CHECK.same("its MOTION is not open", court.due(0, 0), 14);
        CHECK.state("so it cannot be ruled on", court, () -> court.ruling(4, 0));
        CHECK.same("the one ahead of it", court.vacate(0), 8);
        CHECK.same("the first amount", court.amountOf(0), 1000);
        CHECK.same("which it vacates", court.entryAt(8, 3), 3);
        CHECK.state("none is left", court, () -> court.vacate(0));
        Courtdocket denied = responded();
        denied.ruling(1, -1);
        CHECK.state("a denied one", denied, () -> denied.vacate(0));
        Courtdocket later = responded();
        later.ruling(1, 400);
        later.motion(0);
        later.respond(4);
        later.ruling(4, -1);
        CHECK.state("the latest is denied", later, () -> later.vacate(0));
    }

    private static void appeal() {
        Courtdocket court = Scene.answered();
        CHECK.index("claim 1", court, () -> court.appeal(1));
        CHECK.index("claim -1", court, () -> court.appeal(-1));
        CHECK.state("not WON", court, () -> court.appeal(0));
        court.judge(0, 600);
        CHECK.same("appeal", court.appeal(0), 3);
        state("APPEALED", court, 3);
        CHECK.same("no balance", court.balance(0), 0);
        CHECK.state("twice at once", court, () -> court.appeal(0));
        Courtdocket last = Scene.won(600);
        last.pass(30);
        CHECK.same("on the last day", last.appeal(0), 3);
        Courtdocket late = Scene.won(600);
        late.pass(31);
        CHECK.state("late", late, () -> late.appeal(0));
        Courtdocket paid = Scene.won(600);
        paid.pay(0, 1);
        CHECK.state("something is paid", paid, () -> paid.appeal(0));
        Courtdocket again = Scene.appealed(600);
        again.pass(25);
        again.decide(0, 0, 0);
        again.pass(30);
        CHECK.same("from the DECISION", again.appeal(0), 5);
    }

    private static void appealTwice() {
        Courtdocket court = Scene.appealed(600);
        court.decide(0, 0, 0);
        court.stay(0, true);
        court.stay(0, false);
        court.appeal(0);
        court.decide(0, 0, 0);
        CHECK.state("a third", court, () -> court.appeal(0));
        Courtdocket back = Scene.appealed(600);
        back.decide(0, 0, 0);
        back.appeal(0);
        back.decide(0, 2, 600);
        back.judge(0, 500);
        CHECK.same("WON anew", back.appeal(0), 8);
        back.decide(0, 0, 0);
        CHECK.same("and once more", back.appeal(0), 10);
        back.decide(0, 0, 0);
        CHECK.state("but not twice", back, () -> back.appeal(0));
    }

    private static void decide() {
        Courtdocket court = Scene.won(600);
        CHECK.index("claim 1", court, () -> court.decide(1, 0, 0));
        CHECK.index("claim -1", court, () -> court.decide(-1, 0, 0));
        CHECK.argument("outcome -1", court, () -> court.decide(0, -1, 0));
        CHECK.argument("outcome 3", court, () -> court.decide(0, 3, 0));
        CHECK.argument("cap -1", court, () -> court.decide(0, 2, -1));
        CHECK.argument("cap 601", court, () -> court.decide(0, 2, 601));
        CHECK.state("not APPEALED", court, () -> court.decide(0, 0, 0));
        court.appeal(0);
        CHECK.argument("cap above its amount now", court, () -> court.decide(0, 2, 601));
        CHECK.same("affirms; the cap is not looked at", court.decide(0, 0, -7), 4);
        state("WON", court, 2);
        CHECK.same("its amount", court.amountOf(0), 600);
        Courtdocket round = Scene.appealed(600);
        CHECK.same("turns it round", round.decide(0, 1, 99999), 4);
        state("DISMISSED", round, 1);
        CHECK.same("no cap is told", round.entryAt(4, 4), 0);
        Courtdocket back = Scene.appealed(600);
        CHECK.same("sends it back", back.decide(0, 2, 600), 4);
        state("PENDING", back, 0);
        CHECK.same("its amount again", back.amountOf(0), 1000);
        CHECK.same("no deadline for an APPEAL", back.due(2, 0), -1);
    }

    private static void settle() {
        Courtdocket court = Scene.claimed();
        CHECK.index("claim 1", court, () -> court.settle(1));
        CHECK.index("claim -1", court, () -> court.settle(-1));
        CHECK.same("PENDING, not served", court.settle(0), 0);
        state("SETTLED", court, 4);
        CHECK.state("twice", court, () -> court.settle(0));
        Courtdocket won = Scene.won(5);
        won.settle(0);
        state("WON", won, 4);
        CHECK.same("no balance", won.balance(0), 0);
        Courtdocket appealed = Scene.appealed(5);
        appealed.settle(0);
        state("APPEALED", appealed, 4);
        Courtdocket dismissed = Scene.answered();
        dismissed.judge(0, 0);
        CHECK.state("DISMISSED", dismissed, () -> dismissed.settle(0));
        Courtdocket paid = Scene.won(5);
        paid.pay(0, 5);
        CHECK.state("PAID", paid, () -> paid.settle(0));
    }

    private static void pay() {
        Courtdocket court = Scene.won(600);
        CHECK.index("claim 1", court, () -> court.pay(1, 1));
        CHECK.index("claim -1", court, () -> court.pay(-1, 1));
        CHECK.argument("0", court, () -> court.pay(0, 0));
        CHECK.argument("1000000", court, () -> court.pay(0, 1000000));
        CHECK.state("999999", court, () -> court.pay(0, 999999));
        CHECK.state("above the balance", court, () -> court.pay(0, 601));
        CHECK.same("a part", court.pay(0, 599), 1);
        CHECK.same("balance", court.balance(0), 1);
        state("WON still", court, 2);
        CHECK.same("the rest", court.pay(0, 1), 0);
        state("PAID", court, 5);
        CHECK.same("no balance", court.balance(0), 0);
        CHECK.state("nothing is left", court, () -> court.pay(0, 1));
        Courtdocket pending = Scene.answered();
        CHECK.state("PENDING", pending, () -> pending.pay(0, 1));
        CHECK.index("balance 1", pending, () -> pending.balance(1));
        CHECK.index("balance -1", pending, () -> pending.balance(-1));
        CHECK.index("stateOf 1", pending, () -> pending.stateOf(1));
        CHECK.index("stateOf -1", pending, () -> pending.stateOf(-1));
        CHECK.index("stateByDocket 1", pending, () -> pending.stateByDocket(1));
        CHECK.index("stateByDocket -1", pending, () -> pending.stateByDocket(-1));
    }

    private static void interest() {
        Courtdocket court = Scene.won(150);
        court.pass(29);
        CHECK.same("29 days", court.balance(0), 150);
        court.pass(1);
        CHECK.same("30 days: rounded down", court.balance(0), 151);
        court.pass(29);
        CHECK.same("59 days", court.balance(0), 151);
        court.pass(1);
        CHECK.same("60 days", court.balance(0), 153);
        CHECK.same("a part", court.pay(0, 100), 53);
        court.pass(30);
        CHECK.same("on the whole amount", court.balance(0), 54);
        CHECK.same("all", court.pay(0, 54), 0);
        state("PAID", court, 5);
        Courtdocket affirmed = Scene.appealed(1000);
        affirmed.pass(20);
        affirmed.decide(0, 0, 0);
        affirmed.pass(10);
        CHECK.same("since the JUDGEMENT, not the DECISION", affirmed.balance(0), 1010);
        Courtdocket aged = Scene.opened();
        aged.claim(0, 0, 1, 99999);
        aged.serve(0, 0);
        aged.answer(0);
        aged.judge(0, 99999);
        Scene.pass(aged, 900);
        CHECK.same("30 times 30 days", aged.balance(0), 99999 + 29999);
        CHECK.same("all of it", aged.pay(0, 129998), 0);
        state("PAID with interest", aged, 5);
        Courtdocket late = Scene.answered();
        late.pass(40);
        late.judge(0, 1000);
        late.vacate(0);
        late.pass(10);
        late.judge(0, 1000);
        late.pass(29);
        CHECK.same("29 days since the last JUDGEMENT", late.pay(0, 500), 500);
        late.pass(1);
        CHECK.same("30 days", late.balance(0), 510);
        state("all but 10 is paid", late, 2);
        CHECK.same("what is left", late.pay(0, 500), 10);
        state("10 is left", late, 2);
        CHECK.same("nothing is left", late.pay(0, 10), 0);
        state("PAID later", late, 5);
    }
}
