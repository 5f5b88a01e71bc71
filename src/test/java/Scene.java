/** Beginnings that many tests share. */
final class Scene {
    private Scene() {
    }

    /** The case 0 of the judge 0, with the person 0 on the side 0 and the persons 1 and 2 on the side 1. */
    static Courtdocket opened() {
        Courtdocket court = new Courtdocket();
        court.open(0);
        court.join(0, 0, 0);
        court.join(0, 1, 1);
        court.join(0, 2, 1);
        return court;
    }

    /** The same with the claim 0, by the person 0 against 1, over 1000. */
    static Courtdocket claimed() {
        Courtdocket court = opened();
        court.claim(0, 0, 1, 1000);
        return court;
    }

    /** The same, served on the day 0 by the way 0: the entry 0. */
    static Courtdocket served() {
        Courtdocket court = claimed();
        court.serve(0, 0);
        return court;
    }

    /** The same with a MOTION, the entry 1. */
    static Courtdocket moved() {
        Courtdocket court = served();
        court.motion(0);
        return court;
    }

    /** The claim served and answered: the entries 0 and 1. */
    static Courtdocket answered() {
        Courtdocket court = served();
        court.answer(0);
        return court;
    }

    /** The same, WON with an amount: the entry 2. */
    static Courtdocket won(int amount) {
        Courtdocket court = answered();
        court.judge(0, amount);
        return court;
    }

    /** The same, and APPEALED: the entry 3. */
    static Courtdocket appealed(int amount) {
        Courtdocket court = won(amount);
        court.appeal(0);
        return court;
    }

    /** The MOTION 1 of the claim, which is served, with the RESPONSE 2. */
    static Courtdocket responded() {
        Courtdocket court = moved();
        court.respond(1);
        return court;
    }

    /** The claim in a state, served and, but for PENDING and SETTLED, answered, over 600 if it was WON. */
    static Courtdocket inState(int state) {
        Courtdocket court = state == Courtdocket.PENDING || state == Courtdocket.SETTLED ? served() : answered();
        if (state == Courtdocket.DISMISSED) {
            court.judge(0, 0);
        } else if (state == Courtdocket.SETTLED) {
            court.settle(0);
        } else if (state != Courtdocket.PENDING) {
            court.judge(0, 600);
        }
        if (state == Courtdocket.APPEALED) {
            court.appeal(0);
        } else if (state == Courtdocket.PAID) {
            court.pay(0, 600);
        }
        return court;
    }

    /**
     * Makes 14 entries, of every kind, of a claim over more than 500 that is not served, and of a case: SERVE, MOTION,
     * RESPONSE, RULING, ANSWER, JUDGEMENT, VACATE, JUDGEMENT, APPEAL, DECISION, PAY, SETTLE, STAY and LIFT.
     */
    static void everyKind(Courtdocket court, int claim, int number) {
        court.serve(claim, 0);
        int motion = court.motion(claim);
        court.respond(motion);
        court.ruling(motion, 500);
        court.answer(claim);
        court.judge(claim, 400);
        court.vacate(claim);
        court.judge(claim, 300);
        court.appeal(claim);
        court.decide(claim, 0, 0);
        court.pay(claim, 10);
        court.settle(claim);
        court.stay(number, true);
        court.stay(number, false);
    }

    /** A new object on a day. */
    static Courtdocket at(int day) {
        Courtdocket court = new Courtdocket();
        pass(court, day);
        return court;
    }

    /** As many cases, of the judges 0, 1, 2, 0 and so on, without parties. */
    static Courtdocket cases(int count) {
        Courtdocket court = new Courtdocket();
        for (int number = 0; number < count; number++) {
            court.open(number % 3);
        }
        return court;
    }

    /** As many claims in the case 0, by the person 0 against 1, over 1000. */
    static Courtdocket claims(int count) {
        Courtdocket court = opened();
        for (int claim = 0; claim < count; claim++) {
            court.claim(0, 0, 1, 1000);
        }
        return court;
    }

    /** Fills the docket with STAYs and LIFTs of the case 0; those that are made are the last. */
    static void fill(Courtdocket court) {
        fill(court, 0, 160);
    }

    /** Brings the docket to a number of entries with STAYs and LIFTs of a case. */
    static void fill(Courtdocket court, int number, int entries) {
        boolean isOn = true;
        for (int made = court.entries(); made < entries; made++) {
            court.stay(number, isOn);
            isOn = !isOn;
        }
    }

    /**
     * The cases 0 and 1 of the judges 0 and 1, each with the person 0 on the side 0 and the persons 1 and 2 on the
     * side 1; the claims 0 and 1 in the case 0, and the claim 2 in the case 1, by the person 0 against 1, over 1000.
     */
    static Courtdocket threeClaims() {
        Courtdocket court = cases(2);
        for (int number = 0; number < 2; number++) {
            court.join(number, 0, 0);
            court.join(number, 1, 1);
            court.join(number, 2, 1);
        }
        court.claim(0, 0, 1, 1000);
        court.claim(0, 0, 1, 1000);
        court.claim(1, 0, 1, 1000);
        return court;
    }

    /** The same, each served: the entries 0 to 2. */
    static Courtdocket threeServed() {
        Courtdocket court = threeClaims();
        for (int claim = 0; claim < 3; claim++) {
            court.serve(claim, 0);
        }
        return court;
    }

    /** The same, each with a MOTION: the entries 3 to 5. */
    static Courtdocket threeMoved() {
        Courtdocket court = threeServed();
        for (int claim = 0; claim < 3; claim++) {
            court.motion(claim);
        }
        return court;
    }

    /** The three claims served and answered: the entries 3 to 5 answer them. */
    static Courtdocket threeAnswered() {
        Courtdocket court = threeServed();
        for (int claim = 0; claim < 3; claim++) {
            court.answer(claim);
        }
        return court;
    }

    /** The same, each WON over 600: the entries 6 to 8. */
    static Courtdocket threeWon() {
        Courtdocket court = threeAnswered();
        for (int claim = 0; claim < 3; claim++) {
            court.judge(claim, 600);
        }
        return court;
    }

    static void pass(Courtdocket court, int days) {
        int left = days;
        while (left > 0) {
            int step = Math.min(left, 60);
            court.pass(step);
            left -= step;
        }
    }
}
