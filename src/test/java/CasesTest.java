/** Promises 5 to 9, 46 and 48: open, join, lead, claim, sever, amountOf, caseOf. */
public final class CasesTest {
    private static final Check CHECK = new Check("CasesTest");

    private CasesTest() {
    }

    public static void main(String[] args) {
        open();
        join();
        lead();
        claim();
        sever();
        severEnds();
        CHECK.end();
    }

    private static void open() {
        Courtdocket court = new Courtdocket();
        CHECK.index("judge -1", court, () -> court.open(-1));
        CHECK.index("judge 3", court, () -> court.open(3));
        for (int number = 0; number < 8; number++) {
            CHECK.same("open", court.open(number % 3), number);
        }
        CHECK.state("a ninth", court, () -> court.open(0));
        CHECK.index("judge ahead of the state", court, () -> court.open(3));
    }

    private static void join() {
        Courtdocket court = new Courtdocket();
        court.open(0);
        CHECK.index("case -1", court, () -> court.join(-1, 0, 0));
        CHECK.index("case 1", court, () -> court.join(1, 0, 0));
        CHECK.index("person -1", court, () -> court.join(0, -1, 0));
        CHECK.index("person 16", court, () -> court.join(0, 16, 0));
        CHECK.index("side -1", court, () -> court.join(0, 0, -1));
        CHECK.index("side 2", court, () -> court.join(0, 0, 2));
        for (int person = 0; person < 16; person++) {
            CHECK.same("join " + person, court.join(0, 15 - person, person % 2), person + 1);
        }
        CHECK.state("a party", court, () -> court.join(0, 15, 0));
        CHECK.state("a party, on the other side", court, () -> court.join(0, 15, 1));
        CHECK.index("side ahead of the state", court, () -> court.join(0, 15, 2));
        court.open(0);
        CHECK.same("another case", court.join(1, 15, 1), 1);
    }

    private static void lead() {
        Courtdocket court = new Courtdocket();
        for (int number = 0; number < 4; number++) {
            court.open(0);
        }
        CHECK.index("case 4", court, () -> court.lead(4, 0));
        CHECK.index("case -1", court, () -> court.lead(-1, 0));
        CHECK.index("by 4", court, () -> court.lead(0, 4));
        CHECK.index("by -2", court, () -> court.lead(0, -2));
        CHECK.state("by itself", court, () -> court.lead(0, 0));
        CHECK.same("none by none", court.lead(0, -1), -1);
        CHECK.same("1 by 0", court.lead(1, 0), -1);
        CHECK.same("1 by 0 again", court.lead(1, 0), 0);
        CHECK.state("0 leads", court, () -> court.lead(0, 2));
        CHECK.state("1 is led", court, () -> court.lead(2, 1));
        CHECK.same("0 by none", court.lead(0, -1), -1);
        CHECK.same("1 by 2", court.lead(1, 2), 0);
        CHECK.same("0 leads no more", court.lead(0, 2), -1);
        CHECK.same("1 by none", court.lead(1, -1), 2);
        CHECK.same("1 leads", court.lead(3, 1), -1);
        CHECK.state("3 is led by 1", court, () -> court.lead(2, 3));
        CHECK.state("2 leads 0", court, () -> court.lead(2, 1));
        CHECK.same("led by none, then by 1", court.lead(0, -1), 2);
        CHECK.same("2 by 1", court.lead(2, 1), -1);
    }

    private static void claim() {
        Courtdocket court = Scene.opened();
        court.open(1);
        CHECK.index("case 2", court, () -> court.claim(2, 0, 1, 1));
        CHECK.index("case -1", court, () -> court.claim(-1, 0, 1, 1));
        CHECK.index("from -1", court, () -> court.claim(0, -1, 1, 1));
        CHECK.index("from 16", court, () -> court.claim(0, 16, 1, 0));
        CHECK.index("against 16", court, () -> court.claim(0, 0, 16, 1));
        CHECK.argument("amount 0", court, () -> court.claim(0, 0, 1, 0));
        CHECK.argument("amount 100000", court, () -> court.claim(0, 0, 1, 100000));
        CHECK.argument("amount ahead of the state", court, () -> court.claim(0, 1, 2, 0));
        CHECK.state("on one side", court, () -> court.claim(0, 1, 2, 1));
        CHECK.state("against oneself", court, () -> court.claim(0, 0, 0, 1));
        CHECK.state("from no party", court, () -> court.claim(0, 3, 1, 1));
        CHECK.state("against no party", court, () -> court.claim(0, 0, 3, 1));
        CHECK.state("in another case", court, () -> court.claim(1, 0, 1, 1));
        CHECK.same("the first", court.claim(0, 0, 1, 99999), 0);
        CHECK.same("its amount", court.amountOf(0), 99999);
        CHECK.same("its state", court.stateOf(0), 0);
        CHECK.same("its case", court.caseOf(0), 0);
        court.join(1, 5, 0);
        court.join(1, 6, 1);
        CHECK.same("from the side 1", court.claim(1, 6, 5, 1), 1);
        CHECK.same("the case of 1", court.caseOf(1), 1);
        CHECK.same("the amount of 1", court.amountOf(1), 1);
        for (int claim = 2; claim < 24; claim++) {
            CHECK.same("claim", court.claim(0, 2, 0, claim), claim);
        }
        CHECK.state("a 25th", court, () -> court.claim(0, 2, 0, 1));
        CHECK.argument("range ahead of the state", court, () -> court.claim(0, 2, 0, 0));
        CHECK.index("caseOf 24", court, () -> court.caseOf(24));
        CHECK.index("caseOf -1", court, () -> court.caseOf(-1));
        CHECK.index("amountOf 24", court, () -> court.amountOf(24));
        CHECK.index("amountOf -1", court, () -> court.amountOf(-1));
    }

    private static void sever() {
        Courtdocket court = Scene.opened();
        court.claim(0, 1, 0, 70);
        court.claim(0, 0, 2, 70);
        court.open(2);
        CHECK.index("claim 2", court, () -> court.sever(2));
        CHECK.index("claim -1", court, () -> court.sever(-1));
        CHECK.same("a new case", court.sever(0), 2);
        CHECK.same("its claim", court.caseOf(0), 2);
        CHECK.same("the other claim stays", court.caseOf(1), 0);
        CHECK.state("the party 0 is on it", court, () -> court.join(2, 0, 1));
        CHECK.state("the party 1 is on it", court, () -> court.join(2, 1, 0));
        CHECK.same("no other is", court.join(2, 2, 0), 3);
        CHECK.state("0 is on the side 0, as 2 is", court, () -> court.claim(2, 2, 0, 5));
        CHECK.same("1 is on the side 1", court.claim(2, 2, 1, 5), 2);
        CHECK.same("it is led by none", court.lead(2, 0), -1);
        CHECK.same("the old case keeps its parties", court.claim(0, 0, 1, 5), 3);
        court.hearing(2, 1, 0);
        CHECK.state("the same judge", court, () -> court.hearing(0, 1, 0));
        court.hearing(1, 1, 0);
        CHECK.same("again", court.sever(0), 3);
        CHECK.same("its case then", court.caseOf(0), 3);
        for (int number = 4; number < 8; number++) {
            CHECK.same("again", court.sever(0), number);
        }
        CHECK.state("there are 8", court, () -> court.sever(0));
    }

    private static void severEnds() {
        Courtdocket settled = Scene.served();
        settled.settle(0);
        CHECK.state("a SETTLED one", settled, () -> settled.sever(0));
        Courtdocket paid = Scene.won(10);
        paid.pay(0, 10);
        CHECK.state("a PAID one", paid, () -> paid.sever(0));
        Courtdocket dismissed = Scene.answered();
        dismissed.judge(0, 0);
        CHECK.same("a DISMISSED one is not at its end", dismissed.sever(0), 1);
        Courtdocket appealed = Scene.appealed(10);
        CHECK.same("an APPEALED one neither", appealed.sever(0), 1);
        appealed.stay(0, true);
        appealed.decide(0, 0, 0);
        CHECK.same("the stay of the old case is not its own", appealed.due(2, 0), 30);
    }
}
