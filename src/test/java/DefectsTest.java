/** Promises 22, 23 and 43: defect, cure, counts. */
public final class DefectsTest {
    private static final Check CHECK = new Check("DefectsTest");

    private DefectsTest() {
    }

    public static void main(String[] args) {
        defect();
        counts();
        cure();
        motionThatLapses();
        severedInTime();
        CHECK.end();
    }

    private static void defect() {
        Courtdocket court = Scene.moved();
        court.respond(1);
        court.ruling(1, -1);
        court.answer(0);
        court.judge(0, 10);
        CHECK.index("entry 6", court, () -> court.defect(6));
        CHECK.index("entry -1", court, () -> court.defect(-1));
        CHECK.state("a SERVE", court, () -> court.defect(0));
        CHECK.state("a RULING", court, () -> court.defect(3));
        CHECK.state("a JUDGEMENT", court, () -> court.defect(5));
        CHECK.same("a MOTION: 5 working days", court.defect(1), 7);
        CHECK.same("a RESPONSE", court.defect(2), 7);
        court.pass(1);
        CHECK.same("an ANSWER", court.defect(4), 8);
        CHECK.state("once", court, () -> court.defect(4));
        court.cure(4);
        CHECK.state("once, cured or not", court, () -> court.defect(4));
        CHECK.same("no entry is made", court.entries(), 6);
        court.stay(0, true);
        CHECK.same("of a stayed case", court.due(3, 1), -1);
        Courtdocket stayed = Scene.answered();
        stayed.stay(0, true);
        CHECK.same("while stayed: NONE", stayed.defect(1), -1);
    }

    private static void counts() {
        Courtdocket court = Scene.answered();
        CHECK.index("entry 2", court, () -> court.counts(2));
        CHECK.index("entry -1", court, () -> court.counts(-1));
        CHECK.same("without a defect", court.counts(1), true);
        court.defect(1);
        CHECK.same("as long as it can be cured", court.counts(1), true);
        court.pass(7);
        CHECK.same("on the last day", court.counts(1), true);
        CHECK.same("answered", court.isAnswered(0), true);
        court.pass(1);
        CHECK.same("behind it", court.counts(1), false);
        CHECK.same("answered no more", court.isAnswered(0), false);
        CHECK.state("no JUDGEMENT", court, () -> court.judge(0, 10));
        CHECK.same("another ANSWER", court.answer(0), 2);
        CHECK.same("a SERVE counts", court.counts(0), true);
        Courtdocket stayed = Scene.answered();
        stayed.defect(1);
        stayed.stay(0, true);
        stayed.pass(60);
        CHECK.same("never behind NONE", stayed.counts(1), true);
        stayed.stay(0, false);
        CHECK.same("59 days later", stayed.due(3, 1), 66);
    }

    private static void cure() {
        Courtdocket court = Scene.answered();
        CHECK.index("entry 2", court, () -> court.cure(2));
        CHECK.index("entry -1", court, () -> court.cure(-1));
        CHECK.state("no defect", court, () -> court.cure(1));
        CHECK.state("of a SERVE", court, () -> court.cure(0));
        court.defect(1);
        court.pass(7);
        CHECK.same("on the last day", court.cure(1), true);
        CHECK.state("cured", court, () -> court.cure(1));
        court.pass(60);
        CHECK.same("counts for ever", court.counts(1), true);
        CHECK.same("its deadline is still told", court.due(3, 1), 7);
        Courtdocket late = Scene.answered();
        late.defect(1);
        late.pass(8);
        CHECK.state("late", late, () -> late.cure(1));
    }

    private static void motionThatLapses() {
        Courtdocket court = Scene.moved();
        court.defect(1);
        CHECK.same("open: no deadline for an ANSWER", court.due(0, 0), -1);
        court.pass(8);
        CHECK.same("not open: the old deadline", court.due(0, 0), 21);
        CHECK.state("no RESPONSE to it", court, () -> court.respond(1));
        CHECK.same("another MOTION", court.motion(0), 2);
    }

    /** A deadline looks at the case in which the claim is now, and at that which leads it now. */
    private static void severedInTime() {
        Courtdocket court = Scene.answered();
        court.defect(1);
        court.stay(0, true);
        court.pass(8);
        CHECK.same("stayed", court.counts(1), true);
        court.sever(0);
        CHECK.same("in a case that is not stayed", court.counts(1), false);
        court.lead(1, 0);
        CHECK.same("led by the one that is", court.counts(1), true);
        CHECK.same("so it can be cured", court.cure(1), true);
        court.lead(1, -1);
        CHECK.same("and counts then", court.counts(1), true);
    }
}
