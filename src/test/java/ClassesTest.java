/** Promises 37 to 39: certify, member, share. */
public final class ClassesTest {
    private static final Check CHECK = new Check("ClassesTest");

    private ClassesTest() {
    }

    public static void main(String[] args) {
        certify();
        member();
        share();
        CHECK.end();
    }

    private static void certify() {
        Courtdocket court = Scene.claimed();
        CHECK.index("claim 1", court, () -> court.certify(1));
        CHECK.index("claim -1", court, () -> court.certify(-1));
        court.certify(0);
        CHECK.state("it is one", court, () -> court.certify(0));
        Courtdocket won = Scene.won(10);
        CHECK.state("WON", won, () -> won.certify(0));
        Courtdocket settled = Scene.claimed();
        settled.settle(0);
        CHECK.state("SETTLED", settled, () -> settled.certify(0));
        Courtdocket back = Scene.appealed(10);
        back.decide(0, 2, 10);
        back.certify(0);
        CHECK.same("PENDING again", back.member(0, 9, true), 2);
    }

    private static void member() {
        Courtdocket court = Scene.opened();
        court.claim(0, 1, 0, 10);
        CHECK.index("claim 1", court, () -> court.member(1, 0, true));
        CHECK.index("claim -1", court, () -> court.member(-1, 0, true));
        CHECK.index("person 16", court, () -> court.member(0, 16, true));
        CHECK.index("person -1", court, () -> court.member(0, -1, true));
        CHECK.state("no class", court, () -> court.member(0, 5, true));
        court.certify(0);
        CHECK.same("who claims is one", court.member(0, 1, true), 1);
        CHECK.state("and stays", court, () -> court.member(0, 1, false));
        CHECK.same("15 comes in", court.member(0, 15, true), 2);
        CHECK.same("again", court.member(0, 15, true), 2);
        CHECK.same("0 comes in", court.member(0, 0, true), 3);
        CHECK.same("15 goes out", court.member(0, 15, false), 2);
        CHECK.same("again", court.member(0, 15, false), 2);
        court.serve(0, 0);
        court.answer(0);
        court.judge(0, 5);
        CHECK.state("not PENDING: in", court, () -> court.member(0, 15, true));
        CHECK.state("not PENDING: out", court, () -> court.member(0, 0, false));
    }

    private static void share() {
        Courtdocket court = Scene.claimed();
        court.claim(0, 0, 2, 50);
        court.certify(0);
        court.member(0, 7, true);
        court.member(0, 8, true);
        court.member(0, 9, true);
        court.member(0, 9, false);
        for (int claim = 0; claim < 2; claim++) {
            court.serve(claim, 0);
            court.answer(claim);
            court.judge(claim, 50);
        }
        CHECK.index("claim 2", court, () -> court.share(2, 0));
        CHECK.index("claim -1", court, () -> court.share(-1, 0));
        CHECK.index("person 16", court, () -> court.share(0, 16));
        CHECK.index("person -1", court, () -> court.share(0, -1));
        CHECK.same("nothing is paid", court.share(0, 0), 0);
        court.pay(0, 11);
        court.pay(1, 50);
        CHECK.same("11 by 3", court.share(0, 0), 3);
        CHECK.same("of a member", court.share(0, 7), 3);
        CHECK.same("of one that went out", court.share(0, 9), 0);
        CHECK.same("of none", court.share(0, 1), 0);
        CHECK.same("no class", court.share(1, 0), 0);
        court.pay(0, 39);
        CHECK.same("50 by 3", court.share(0, 8), 16);
    }
}
