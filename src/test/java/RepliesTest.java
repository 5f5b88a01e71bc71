/** Promises 10 to 13, 41, 42 and 49: serve, answer, motion, respond, entries, entryAt, isAnswered. */
public final class RepliesTest {
    private static final Check CHECK = new Check("RepliesTest");

    private RepliesTest() {
    }

    public static void main(String[] args) {
        serve();
        answer();
        motion();
        replyOnTime();
        respond();
        entryAt();
        fullDocket();
        CHECK.end();
    }

    private static void serve() {
        Courtdocket court = Scene.claimed();
        court.claim(0, 0, 2, 10);
        court.claim(0, 2, 0, 10);
        CHECK.index("claim 3", court, () -> court.serve(3, 0));
        CHECK.index("claim -1", court, () -> court.serve(-1, 0));
        CHECK.index("way -1", court, () -> court.serve(0, -1));
        CHECK.index("way 3", court, () -> court.serve(0, 3));
        CHECK.same("the first entry", court.serve(0, 0), 0);
        CHECK.same("the second", court.serve(1, 1), 1);
        CHECK.same("the third", court.serve(2, 2), 2);
        CHECK.same("way 0: none more", court.due(0, 0), 21);
        CHECK.same("way 1: 3 more", court.due(0, 1), 24);
        CHECK.same("way 2: 7 more", court.due(0, 2), 28);
        CHECK.state("served", court, () -> court.serve(0, 0));
        CHECK.index("way ahead of the state", court, () -> court.serve(0, 3));
        court.claim(0, 0, 1, 10);
        court.settle(3);
        CHECK.state("not PENDING", court, () -> court.serve(3, 0));
        Courtdocket working = Scene.claimed();
        working.setRule(0, 4, true);
        working.serve(0, 1);
        CHECK.same("3 working days more", working.due(0, 0), 9);
    }

    private static void answer() {
        Courtdocket court = Scene.claimed();
        CHECK.index("claim 1", court, () -> court.answer(1));
        CHECK.index("claim -1", court, () -> court.answer(-1));
        CHECK.state("not served", court, () -> court.answer(0));
        court.serve(0, 0);
        CHECK.same("isAnswered ahead", court.isAnswered(0), false);
        CHECK.same("answer", court.answer(0), 1);
        CHECK.same("isAnswered then", court.isAnswered(0), true);
        CHECK.state("answered", court, () -> court.answer(0));
        CHECK.state("no MOTION then", court, () -> court.motion(0));
        CHECK.index("isAnswered 1", court, () -> court.isAnswered(1));
        CHECK.index("isAnswered -1", court, () -> court.isAnswered(-1));
        Courtdocket moved = Scene.moved();
        CHECK.state("a MOTION is open", moved, () -> moved.answer(0));
        moved.respond(1);
        CHECK.state("still", moved, () -> moved.answer(0));
        moved.ruling(1, -1);
        CHECK.same("denied", moved.answer(0), 4);
        Courtdocket settled = Scene.served();
        settled.settle(0);
        CHECK.state("SETTLED", settled, () -> settled.answer(0));
        Courtdocket back = Scene.appealed(10);
        back.decide(0, 2, 10);
        CHECK.same("answered as before", back.isAnswered(0), true);
        CHECK.state("so not again", back, () -> back.answer(0));
    }

    private static void motion() {
        Courtdocket court = Scene.claimed();
        CHECK.index("claim 1", court, () -> court.motion(1));
        CHECK.state("not served", court, () -> court.motion(0));
        court.serve(0, 0);
        CHECK.same("motion", court.motion(0), 1);
        CHECK.state("one is open", court, () -> court.motion(0));
        court.respond(1);
        court.ruling(1, 999);
        CHECK.same("after a RULING in part", court.motion(0), 4);
        court.respond(4);
        court.ruling(4, 0);
        CHECK.state("DISMISSED", court, () -> court.motion(0));
        court.vacate(0);
        CHECK.same("after a VACATE", court.motion(0), 8);
    }

    private static void replyOnTime() {
        Courtdocket court = Scene.served();
        court.pass(21);
        CHECK.same("a MOTION on the last day", court.motion(0), 1);
        Courtdocket late = Scene.served();
        late.pass(22);
        CHECK.state("a late MOTION", late, () -> late.motion(0));
        CHECK.state("a late ANSWER", late, () -> late.answer(0));
        Courtdocket last = Scene.served();
        last.pass(21);
        CHECK.same("an ANSWER on the last day", last.answer(0), 1);
        Courtdocket stayed = Scene.served();
        stayed.stay(0, true);
        stayed.pass(60);
        CHECK.same("no deadline, never behind", stayed.due(0, 0), -1);
        CHECK.same("an ANSWER then", stayed.answer(0), 2);
    }

    private static void respond() {
        Courtdocket court = Scene.moved();
        CHECK.index("entry 2", court, () -> court.respond(2));
        CHECK.index("entry -1", court, () -> court.respond(-1));
        CHECK.index("a SERVE", court, () -> court.respond(0));
        court.pass(14);
        CHECK.same("on the last day", court.respond(1), 2);
        CHECK.same("counts", court.counts(2), true);
        CHECK.state("there is one", court, () -> court.respond(1));
        court.ruling(1, -1);
        CHECK.state("it is not open", court, () -> court.respond(1));
        Courtdocket late = Scene.moved();
        late.pass(15);
        CHECK.state("late", late, () -> late.respond(1));
        Courtdocket lapsed = Scene.moved();
        lapsed.respond(1);
        lapsed.defect(2);
        CHECK.state("it counts still", lapsed, () -> lapsed.respond(1));
        lapsed.pass(8);
        CHECK.same("one that counts no more", lapsed.respond(1), 3);
        Courtdocket settled = Scene.moved();
        settled.settle(0);
        CHECK.same("a MOTION of a SETTLED claim is open", settled.respond(1), 3);
    }

    private static void parts(Courtdocket court, int entry, int... due) {
        for (int part = 0; part < 5; part++) {
            CHECK.same("entry " + entry + ", part " + part, court.entryAt(entry, part), due[part]);
        }
    }

    private static void entryAt() {
        Courtdocket court = Scene.opened();
        court.open(1);
        court.claim(0, 0, 1, 1000);
        court.claim(0, 0, 2, 500);
        court.pass(1);
        court.serve(1, 2);
        court.motion(1);
        court.pass(2);
        court.respond(1);
        court.ruling(1, 400);
        court.vacate(1);
        court.answer(1);
        court.judge(1, 300);
        court.appeal(1);
        court.decide(1, 0, 7);
        court.appeal(1);
        court.decide(1, 2, 77);
        court.judge(1, 70);
        court.pay(1, 20);
        court.settle(1);
        court.stay(1, true);
        court.stay(1, false);
        parts(court, 0, 0, 1, 1, 2, 0);
        parts(court, 1, 2, 1, 1, 0, 0);
        parts(court, 2, 3, 3, 1, 1, 0);
        parts(court, 3, 4, 3, 1, 400, 1);
        parts(court, 4, 6, 3, 1, 3, 0);
        parts(court, 5, 1, 3, 1, 0, 0);
        parts(court, 6, 5, 3, 1, 300, 0);
        parts(court, 7, 7, 3, 1, 0, 0);
        parts(court, 8, 8, 3, 1, 0, 0);
        parts(court, 9, 7, 3, 1, 0, 0);
        parts(court, 10, 8, 3, 1, 2, 77);
        parts(court, 11, 5, 3, 1, 70, 0);
        parts(court, 12, 10, 3, 1, 20, 0);
        parts(court, 13, 9, 3, 1, 0, 0);
        parts(court, 14, 11, 3, 1, 0, 0);
        parts(court, 15, 12, 3, 1, 0, 0);
        CHECK.same("entries", court.entries(), 16);
        CHECK.index("entry 16", court, () -> court.entryAt(16, 0));
        CHECK.index("entry -1", court, () -> court.entryAt(-1, 0));
        CHECK.index("part 5", court, () -> court.entryAt(0, 5));
        CHECK.index("part -1", court, () -> court.entryAt(0, -1));
        Courtdocket byDefault = Scene.served();
        byDefault.pass(22);
        byDefault.judge(0, -1);
        parts(byDefault, 1, 5, 22, 0, 1000, 0);
        Courtdocket denied = Scene.moved();
        denied.respond(1);
        denied.ruling(1, -1);
        parts(denied, 3, 4, 0, 0, -1, 1);
    }

    private static void fullDocket() {
        Courtdocket court = Scene.opened();
        for (int claim = 0; claim < 9; claim++) {
            court.claim(0, 0, 1, 100);
        }
        for (int claim = 1; claim < 9; claim++) {
            court.serve(claim, 0);
        }
        court.motion(2);
        court.motion(3);
        court.respond(9);
        for (int claim = 4; claim < 9; claim++) {
            court.answer(claim);
        }
        for (int claim = 5; claim < 8; claim++) {
            court.judge(claim, 50);
        }
        court.appeal(7);
        CHECK.same("entries", court.entries(), 20);
        Scene.fill(court);
        CHECK.same("entries", court.entries(), 160);
        CHECK.state("serve", court, () -> court.serve(0, 0));
        CHECK.state("answer", court, () -> court.answer(1));
        CHECK.state("motion", court, () -> court.motion(1));
        CHECK.state("respond", court, () -> court.respond(8));
        CHECK.state("ruling", court, () -> court.ruling(9, 10));
        CHECK.state("judge", court, () -> court.judge(4, 10));
        CHECK.state("vacate", court, () -> court.vacate(5));
        CHECK.state("appeal", court, () -> court.appeal(5));
        CHECK.state("pay", court, () -> court.pay(6, 10));
        CHECK.state("decide", court, () -> court.decide(7, 0, 0));
        CHECK.state("settle", court, () -> court.settle(8));
        CHECK.state("stay", court, () -> court.stay(0, true));
        CHECK.same("nothing was made", court.entries(), 160);
        CHECK.same("nothing was paid", court.balance(6), 50);
        for (int claim = 0; claim < 9; claim++) {
            CHECK.same("states", court.stateByDocket(claim), court.stateOf(claim));
            CHECK.same("deadlines", court.dueByDays(0, claim), court.due(0, claim));
        }
        CHECK.same("a defect needs no entry", court.defect(9), 7);
        CHECK.index("entry 160", court, () -> court.counts(160));
    }
}
