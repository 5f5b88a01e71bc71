/** Promises 10 to 15: serve, answer, motion, respond, ruling, judge. */
public final class Promises10Test {
    private Promises10Test() {
    }

    public static void main(String[] args) {
        Sentences.run(Promises10Test.class);
    }

    /** Two claims that are served: the entries 0 and 1. */
    private static Courtdocket served() {
        Courtdocket court = Scene.claims(2);
        court.serve(0, 0);
        court.serve(1, 0);
        return court;
    }

    /** The same with a MOTION of each claim, the entries 2 and 3. */
    private static Courtdocket moved() {
        Courtdocket court = served();
        court.motion(0);
        court.motion(1);
        return court;
    }

    /** The same with a RESPONSE to each MOTION, the entries 4 and 5. */
    private static Courtdocket responded() {
        Courtdocket court = moved();
        court.respond(2);
        court.respond(3);
        return court;
    }

    // ---- serve

    @Says(at = "Promise 10", value = "`way`: 0 to 2")
    static void p10Way0To2(Check check) {
        int[] due = {21, 24, 28};
        for (int way = 0; way < 3; way++) {
            Courtdocket court = Scene.claimed();
            check.same("way " + way, court.serve(0, way), 0);
            check.same("as told", court.entryAt(0, 3), way);
            check.same("due", court.due(0, 0), due[way]);
        }
    }

    @Says(at = "Promise 10", value = "Returns the number of the entry.")
    static void p10ReturnsTheNumber(Check check) {
        Courtdocket court = Scene.claims(24);
        for (int claim = 0; claim < 24; claim++) {
            check.same("the entry", court.serve(23 - claim, 0), claim);
            check.same("its claim", court.entryAt(claim, 2), 23 - claim);
        }
    }

    @Says(at = "Promise 10", value = "Throws `IndexOutOfBoundsException` if there is no such claim or way")
    static void p10NoSuchClaimOrWay(Check check) {
        Courtdocket court = Scene.claims(2);
        Limits.noSuch(check, "claim", court, 2, (on, claim) -> on.serve(claim, 0));
        check.index("way", court, 0, 2, way -> court.serve(1, way));
        check.same("none was made", court.serve(1, 2), 0);
    }

    @Says(at = "Promise 10", value = "Throws `IllegalStateException` if it is not possible, or there are 160 entries")
    static void p10NotPossible(Check check) {
        Courtdocket court = Scene.claims(2);
        court.serve(0, 0);
        check.state("served", court, () -> court.serve(0, 0));
        court.settle(1);
        check.state("SETTLED", court, () -> court.serve(1, 0));
        Limits.atMost160Entries(check, Scene::claimed, on -> on.serve(0, 0));
    }

    // ---- answer

    @Says(at = "Promise 11", value = "Returns the number of the entry.")
    static void p11ReturnsTheNumber(Check check) {
        Courtdocket court = served();
        check.same("the first", court.answer(1), 2);
        check.same("the second", court.answer(0), 3);
        check.same("its kind", court.entryAt(3, 0), Courtdocket.ANSWER);
    }

    @Says(at = "Promise 11", value = "Throws `IndexOutOfBoundsException` if there is no such claim")
    static void p11NoSuchClaim(Check check) {
        Courtdocket court = served();
        Limits.noSuch(check, "claim", court, 2, (on, claim) -> on.answer(claim));
        check.same("the last one", court.answer(1), 2);
    }

    @Says(at = "Promise 11", value = "Throws `IllegalStateException` if it is not possible, or there are 160 entries")
    static void p11NotPossible(Check check) {
        Courtdocket claimed = Scene.claimed();
        check.state("not served", claimed, () -> claimed.answer(0));
        Courtdocket answered = Scene.answered();
        check.state("answered", answered, () -> answered.answer(0));
        Courtdocket moved = Scene.moved();
        check.state("a MOTION is open", moved, () -> moved.answer(0));
        Courtdocket late = Scene.served();
        late.pass(22);
        check.state("late", late, () -> late.answer(0));
        Limits.atMost160Entries(check, Scene::served, on -> on.answer(0));
    }

    // ---- motion

    @Says(at = "Promise 12", value = "Returns the number of the entry.")
    static void p12ReturnsTheNumber(Check check) {
        Courtdocket court = served();
        check.same("the first", court.motion(1), 2);
        check.same("the second", court.motion(0), 3);
        check.same("its kind", court.entryAt(3, 0), Courtdocket.MOTION);
    }

    @Says(at = "Promise 12", value = "Throws `IndexOutOfBoundsException` if there is no such claim")
    static void p12NoSuchClaim(Check check) {
        Courtdocket court = served();
        Limits.noSuch(check, "claim", court, 2, (on, claim) -> on.motion(claim));
        check.same("the last one", court.motion(1), 2);
    }

    @Says(at = "Promise 12", value = "Throws `IllegalStateException` if it is not possible, or there are 160 entries")
    static void p12NotPossible(Check check) {
        Courtdocket claimed = Scene.claimed();
        check.state("not served", claimed, () -> claimed.motion(0));
        Courtdocket answered = Scene.answered();
        check.state("answered", answered, () -> answered.motion(0));
        Courtdocket moved = Scene.moved();
        check.state("a MOTION is open", moved, () -> moved.motion(0));
        Courtdocket late = Scene.served();
        late.pass(22);
        check.state("late", late, () -> late.motion(0));
        Limits.atMost160Entries(check, Scene::served, on -> on.motion(0));
    }

    // ---- respond

    @Says(at = "Promise 13", value = "`motion`: the number of its entry")
    static void p13TheNumberOfItsEntry(Check check) {
        Courtdocket court = moved();
        court.respond(3);
        check.same("its MOTION", court.entryAt(4, 3), 3);
        check.same("its claim", court.entryAt(4, 2), 1);
        check.same("the other MOTION has none", court.respond(2), 5);
    }

    @Says(at = "Promise 13", value = "Returns the number of the entry.")
    static void p13ReturnsTheNumber(Check check) {
        Courtdocket court = moved();
        check.same("the first", court.respond(2), 4);
        check.same("the second", court.respond(3), 5);
    }

    @Says(at = "Promise 13", value = "Throws `IndexOutOfBoundsException` if there is no such MOTION")
    static void p13NoSuchMotion(Check check) {
        Courtdocket court = moved();
        court.stay(0, true);
        court.stay(0, false);
        Limits.noSuch(check, "entry", court, 6, (on, entry) -> on.respond(entry));
        for (int entry : new int[] {0, 1, 4, 5}) {
            check.index("no MOTION, but " + entry, court, () -> court.respond(entry));
        }
        court.respond(2);
        check.index("no MOTION, but a RESPONSE", court, () -> court.respond(6));
        check.same("the last MOTION", court.respond(3), 7);
    }

    @Says(at = "Promise 13", value = "Throws `IllegalStateException` if it is not possible, or there are 160 entries")
    static void p13NotPossible(Check check) {
        Courtdocket responded = Scene.responded();
        check.state("it has one", responded, () -> responded.respond(1));
        responded.ruling(1, -1);
        check.state("ruled on", responded, () -> responded.respond(1));
        Courtdocket late = Scene.moved();
        late.pass(15);
        check.state("late", late, () -> late.respond(1));
        Limits.atMost160Entries(check, Scene::moved, on -> on.respond(1));
    }

    // ---- ruling

    @Says(at = "Promise 14", value = "`motion`: the number of its entry")
    static void p14TheNumberOfItsEntry(Check check) {
        Courtdocket court = responded();
        court.ruling(3, 40);
        check.same("its claim", court.amountOf(1), 40);
        check.same("not the other one", court.amountOf(0), 1000);
        check.same("its MOTION", court.entryAt(6, 4), 3);
        check.same("the other MOTION is open", court.ruling(2, -1), 7);
    }

    @Says(at = "Promise 14",
        value = "`amount`: NONE, if it is denied; 0, if it is granted; otherwise the lesser amount")
    static void p14Amount(Check check) {
        int[] amounts = {-1, 0, 1, 2, 998, 999};
        for (int amount : amounts) {
            Courtdocket court = Scene.responded();
            check.same("with " + amount, court.ruling(1, amount), 3);
            check.same("as told", court.entryAt(3, 3), amount);
            check.same("state", court.stateOf(0), amount == 0 ? Courtdocket.DISMISSED : Courtdocket.PENDING);
            check.same("state by docket", court.stateByDocket(0), court.stateOf(0));
            check.same("amount", court.amountOf(0), amount < 1 ? 1000 : amount);
        }
    }

    @Says(at = "Promise 14", value = "Returns the number of the entry.")
    static void p14ReturnsTheNumber(Check check) {
        Courtdocket court = responded();
        check.same("the first", court.ruling(3, -1), 6);
        check.same("the second", court.ruling(2, -1), 7);
    }

    @Says(at = "Promise 14", value = "Throws `IndexOutOfBoundsException` if there is no such MOTION")
    static void p14NoSuchMotion(Check check) {
        Courtdocket court = responded();
        court.stay(0, true);
        Limits.noSuch(check, "entry", court, 7, (on, entry) -> on.ruling(entry, -1));
        for (int entry : new int[] {0, 1, 4, 5, 6}) {
            check.index("no MOTION, but " + entry, court, () -> court.ruling(entry, -1));
        }
        check.same("the last MOTION", court.ruling(3, -1), 7);
    }

    @Says(at = "Promise 14",
        value = "Throws `IllegalArgumentException` if amount is below NONE, or not below the amount of the claim")
    static void p14AmountOutOfRange(Check check) {
        Courtdocket court = responded();
        check.argument("amount", court, -1, 999, amount -> court.ruling(2, amount));
        court.ruling(2, 999);
        Courtdocket lesser = Scene.responded();
        lesser.ruling(1, 500);
        lesser.motion(0);
        lesser.respond(4);
        check.argument("the amount of now", lesser, -1, 499, amount -> lesser.ruling(4, amount));
        check.argument("the amount ahead of that", lesser, () -> lesser.ruling(4, 999));
        check.same("the amount is as it was", lesser.amountOf(0), 500);
        check.same("1 below it", lesser.ruling(4, 499), 6);
    }

    @Says(at = "Promise 14", value = "Throws `IllegalStateException` if it is not possible, or there are 160 entries")
    static void p14NotPossible(Check check) {
        Courtdocket moved = Scene.moved();
        check.state("without a RESPONSE, in time", moved, () -> moved.ruling(1, 0));
        Courtdocket ruled = Scene.responded();
        ruled.ruling(1, -1);
        check.state("ruled on", ruled, () -> ruled.ruling(1, -1));
        Courtdocket settled = Scene.responded();
        settled.settle(0);
        check.state("SETTLED", settled, () -> settled.ruling(1, 5));
        Limits.atMost160Entries(check, Scene::responded, on -> on.ruling(1, 5));
        Limits.atMost160Entries(check, Scene::responded, on -> on.ruling(1, 0));
        Limits.atMost160Entries(check, Scene::responded, on -> on.ruling(1, -1));
    }

    // ---- judge

    @Says(at = "Promise 15", value = "`amount`: 0 to its amount; NONE for a judgement by default")
    static void p15Amount(Check check) {
        for (int amount : new int[] {0, 1, 999, 1000}) {
            Courtdocket court = Scene.answered();
            check.same("with " + amount, court.judge(0, amount), 2);
            check.same("as told", court.entryAt(2, 3), amount);
            check.same("state", court.stateOf(0), amount == 0 ? Courtdocket.DISMISSED : Courtdocket.WON);
        }
        Courtdocket byDefault = Scene.served();
        byDefault.pass(22);
        check.same("by default", byDefault.judge(0, -1), 1);
        check.same("with its amount", byDefault.entryAt(1, 3), 1000);
    }

    @Says(at = "Promise 15", value = "Returns the number of the entry.")
    static void p15ReturnsTheNumber(Check check) {
        Courtdocket court = served();
        court.answer(0);
        court.pass(22);
        check.same("the first, by default", court.judge(1, -1), 3);
        check.same("the second", court.judge(0, 7), 4);
    }

    @Says(at = "Promise 15", value = "Throws `IndexOutOfBoundsException` if there is no such claim")
    static void p15NoSuchClaim(Check check) {
        Courtdocket court = served();
        court.answer(1);
        Limits.noSuch(check, "claim", court, 2, (on, claim) -> on.judge(claim, 0));
        check.same("the last one", court.judge(1, 0), 3);
    }

    @Says(at = "Promise 15", value = "Throws `IllegalArgumentException` if amount is out of range")
    static void p15AmountOutOfRange(Check check) {
        Courtdocket court = Scene.answered();
        check.argument("amount", court, -1, 1000, amount -> court.judge(0, amount));
        court.judge(0, 400);
        court.vacate(0);
        check.argument("amount, vacated", court, -1, 1000, amount -> court.judge(0, amount));
        court.judge(0, 400);
        check.argument("the amount of now", court, -1, 400, amount -> court.judge(0, amount));
    }

    @Says(at = "Promise 15",
        value = "Throws `IllegalStateException` if it is not possible, the amount is above the cap, or there are 160 "
            + "entries")
    static void p15NotPossible(Check check) {
        Courtdocket served = Scene.served();
        check.state("not answered", served, () -> served.judge(0, 10));
        check.state("by default, in time", served, () -> served.judge(0, -1));
        Courtdocket answered = Scene.answered();
        answered.pass(22);
        check.state("by default, answered", answered, () -> answered.judge(0, -1));
        Courtdocket claimed = Scene.claimed();
        check.state("by default, not served", claimed, () -> claimed.judge(0, -1));
        Courtdocket won = Scene.won(5);
        check.state("WON", won, () -> won.judge(0, 5));
        Limits.atMost160Entries(check, Scene::answered, on -> on.judge(0, 5));
        Limits.atMost160Entries(check, Promises10Test::late, on -> on.judge(0, -1));
    }

    private static Courtdocket late() {
        Courtdocket court = Scene.served();
        court.pass(22);
        return court;
    }

    @Says(at = "Promise 15",
        value = "Throws `IllegalStateException` if it is not possible, the amount is above the cap, or there are 160 "
            + "entries")
    static void p15AboveTheCap(Check check) {
        Courtdocket court = Scene.appealed(600);
        court.decide(0, 2, 300);
        check.state("1 above", court, () -> court.judge(0, 301));
        check.state("all", court, () -> court.judge(0, 1000));
        check.same("PENDING still", court.stateOf(0), Courtdocket.PENDING);
        check.same("up to it", court.judge(0, 300), 5);
        Courtdocket zero = Scene.appealed(600);
        zero.decide(0, 2, 0);
        check.state("1 above 0", zero, () -> zero.judge(0, 1));
        check.same("0", zero.judge(0, 0), 5);
    }

    // ---- which exception is thrown

    @Says(at = "Classes", value = "If several apply, the one that the throws clause names first is thrown.")
    static void orderOfReplies(Check check) {
        Courtdocket court = Scene.responded();
        court.settle(0);
        Scene.fill(court);
        check.index("serve: no way, SETTLED, 160 entries", court, () -> court.serve(0, 3));
        check.index("serve: no claim, 160 entries", court, () -> court.serve(1, 0));
        check.index("answer: no claim, 160 entries", court, () -> court.answer(1));
        check.index("motion: no claim, 160 entries", court, () -> court.motion(1));
        check.index("respond: no MOTION, 160 entries", court, () -> court.respond(2));
        check.index("ruling: no MOTION, no amount, 160 entries", court, () -> court.ruling(2, -2));
        check.argument("ruling: no amount, SETTLED, 160 entries", court, () -> court.ruling(1, 1000));
        check.index("judge: no claim, no amount, 160 entries", court, () -> court.judge(1, -2));
        check.argument("judge: no amount, SETTLED, 160 entries", court, () -> court.judge(0, 1001));
        Courtdocket capped = Scene.appealed(600);
        capped.decide(0, 2, 10);
        check.argument("judge: no amount, above the cap", capped, () -> capped.judge(0, 1001));
    }
}
