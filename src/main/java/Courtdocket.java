/** A court's docket: shared/DOC.md tells, in numbered promises, what each call does. */
public final class Courtdocket {
    public static final int NONE = -1;
    public static final int PENDING = 0, DISMISSED = 1, WON = 2, APPEALED = 3, SETTLED = 4, PAID = 5;
    public static final int SERVE = 0, ANSWER = 1, MOTION = 2, RESPONSE = 3, RULING = 4, JUDGEMENT = 5, VACATE = 6,
        APPEAL = 7, DECISION = 8, SETTLE = 9, PAY = 10, STAY = 11, LIFT = 12;

    private static final int PERSONS = 16, JUDGES = 3, SIDES = 2, WAYS = 3;
    private static final int MOST_CASES = 8, MOST_CLAIMS = 24, MOST_ENTRIES = 160;
    private static final int MOST_AMOUNT = 99999, MOST_PAID = 999999, MOST_DAYS = 60;
    private static final int MOST_APPEALS = 2;

    private static final int LAST_TODAY = 900, LAST_HOLIDAY = 1000, LAST_DEADLINE = 1400;
    private static final int MOST_HOLIDAYS = 30;

    private static final int RULES = 5;
    private static final int ANSWER_RULE = 0, RESPONSE_RULE = 1, APPEAL_RULE = 2, AFTER_RULE = 3, CURE_RULE = 4;
    private static final int[] FIRST_RULE_DAYS = {21, 14, 30, 14, 5};
    private static final int[] WAY_DAYS = {0, 3, 7};

    private static final int SORTS = 4;
    private static final int FOR_ANSWER = 0, FOR_RESPONSE = 1, FOR_APPEAL = 2, FOR_CURE = 3;

    private static final int DENIED = NONE, GRANTED = 0, BY_DEFAULT = NONE;
    private static final int AFFIRMS = 0, TURNS_ROUND = 1, SENDS_BACK = 2;

    private static final int MOST_HEARINGS = 40, SLOTS = 4, LAST_SET = 990, LAST_CONTINUED = 1000;
    private static final int JURORS = 14, SEATS = 6, ALTERNATES = 2, MOST_STRIKES = 6;
    private static final int MOST_EXHIBITS = 12;
    private static final int UNRAISED = 0, RAISED = 1, SUSTAINED = 2, OVERRULED = 3;
    private static final int MOST_CALLS = 512;

    private final Calendar calendar;
    private final Cases cases;
    private final Claims claims;
    private final Docket docket;
    private final Hearings hearings;
    private final Juries juries;
    private final Exhibits exhibits;
    private final Seals seals;

    public Courtdocket() {
        calendar = new Calendar();
        cases = new Cases();
        claims = new Claims();
        docket = new Docket();
        hearings = new Hearings();
        juries = new Juries();
        exhibits = new Exhibits();
        seals = new Seals();
    }

    // ---- days and rules

    public int pass(int days) throws IllegalArgumentException, IllegalStateException {
        checkDays(days);
        if (calendar.now + days > LAST_TODAY) {
            throw new IllegalStateException("today would be too late");
        }
        calendar.now += days;
        return calendar.now;
    }

    public boolean holiday(int day) throws IllegalArgumentException, IllegalStateException {
        if (day < 0 || day > LAST_HOLIDAY) {
            throw new IllegalArgumentException("day out of range");
        }
        if (day <= calendar.now || calendar.isHoliday(day) || calendar.holidayCount >= MOST_HOLIDAYS) {
            throw new IllegalStateException("no holiday can be made of it");
        }
        boolean wasFree = calendar.isFree(day);
        calendar.addHoliday(day);
        return !wasFree;
    }

    public int setRule(int rule, int days, boolean isWorking)
            throws IndexOutOfBoundsException, IllegalArgumentException {
        if (rule < 0 || rule >= RULES) {
            throw new IndexOutOfBoundsException("no such rule");
        }
        checkDays(days);
        int before = calendar.ruleDays[rule];
        calendar.ruleDays[rule] = days;
        calendar.isRuleWorking[rule] = isWorking;
        return before;
    }

    // ---- cases, parties, claims

    public int open(int judge) throws IndexOutOfBoundsException, IllegalStateException {
        if (judge < 0 || judge >= JUDGES) {
            throw new IndexOutOfBoundsException("no such judge");
        }
        if (cases.count >= MOST_CASES) {
            throw new IllegalStateException("too many cases");
        }
        return cases.add(judge);
    }

    public int join(int number, int person, int side) throws IndexOutOfBoundsException, IllegalStateException {
        checkCase(number);
        checkPerson(person);
        checkSide(side);
        if (cases.isParty(number, person)) {
            throw new IllegalStateException("a party already");
        }
        cases.addParty(number, person, side, calendar.now);
        return cases.parties[number];
    }

    public int lead(int number, int by) throws IndexOutOfBoundsException, IllegalStateException {
        checkCase(number);
        if (by != NONE) {
            checkCase(by);
            if (by == number || cases.leadsOthers(number) || cases.leader[by] != NONE) {
                throw new IllegalStateException("it cannot be led by that one");
            }
        }
        int before = cases.leader[number];
        cases.leader[number] = by;
        return before;
    }

    public int claim(int number, int from, int against, int amount)
            throws IndexOutOfBoundsException, IllegalArgumentException, IllegalStateException {
        checkCase(number);
        checkPerson(from);
        checkPerson(against);
        checkAmount(amount, MOST_AMOUNT);
        if (!cases.areOpposed(number, from, against) || claims.count >= MOST_CLAIMS) {
            throw new IllegalStateException("no such claim can be made");
        }
        return claims.add(number, from, against, amount);
    }

    public int sever(int claim) throws IndexOutOfBoundsException, IllegalStateException {
        checkClaim(claim);
        if (claims.isEnded(claim) || cases.count >= MOST_CASES) {
            throw new IllegalStateException("it cannot be severed");
        }
        int old = claims.inCase[claim];
        int from = claims.from[claim];
        int against = claims.against[claim];
        int made = cases.add(cases.judge[old]);
        cases.addParty(made, from, cases.side[old][from], calendar.now);
        cases.addParty(made, against, cases.side[old][against], calendar.now);
        claims.inCase[claim] = made;
        return made;
    }

    // ---- entries

    public int serve(int claim, int way) throws IndexOutOfBoundsException, IllegalStateException {
        checkClaim(claim);
        if (way < 0 || way >= WAYS) {
            throw new IndexOutOfBoundsException("no such way");
        }
        allow(claims.state[claim] == PENDING && !isServed(claim));
        int entry = enter(SERVE, claim, way, 0);
        docket.days[entry] += WAY_DAYS[way];
        return entry;
    }

    public int answer(int claim) throws IndexOutOfBoundsException, IllegalStateException {
        checkClaim(claim);
        allow(isUnanswered(claim) && !isLate(docket.answerStart(claim)));
        return enter(ANSWER, claim, 0, 0);
    }

    public int motion(int claim) throws IndexOutOfBoundsException, IllegalStateException {
        checkClaim(claim);
        allow(isUnanswered(claim) && !isLate(docket.answerStart(claim)));
        return enter(MOTION, claim, 0, 0);
    }

    public int respond(int motion) throws IndexOutOfBoundsException, IllegalStateException {
        checkMotion(motion);
        allow(isOpenMotion(motion) && !hasResponse(motion) && !isLate(motion));
        return enter(RESPONSE, docket.about[motion], motion, 0);
    }

    public int ruling(int motion, int amount)
            throws IndexOutOfBoundsException, IllegalArgumentException, IllegalStateException {
        checkMotion(motion);
        int claim = docket.about[motion];
        if (amount < DENIED || amount >= claims.amount[claim]) {
            throw new IllegalArgumentException("amount out of range");
        }
        allow(isOpenMotion(motion) && claims.state[claim] == PENDING
            && (hasResponse(motion) || isLate(motion)));
        int entry = enter(RULING, claim, amount, motion);
        docket.isRuled[motion] = true;
        if (amount == GRANTED) {
            claims.state[claim] = DISMISSED;
        } else if (amount != DENIED) {
            claims.amount[claim] = amount;
        }
        return entry;
    }

    public int judge(int claim, int amount)
            throws IndexOutOfBoundsException, IllegalArgumentException, IllegalStateException {
        checkClaim(claim);
        if (amount < BY_DEFAULT || amount > claims.amount[claim]) {
            throw new IllegalArgumentException("amount out of range");
        }
        boolean isByDefault = amount == BY_DEFAULT;
        if (isByDefault) {
            allow(isUnanswered(claim) && isLate(docket.answerStart(claim)) && claims.cap[claim] != 0);
        } else {
            allow(claims.state[claim] == PENDING && hasAnswer(claim) && !claims.isAboveCap(claim, amount));
        }
        int won = isByDefault ? claims.amountByDefault(claim) : amount;
        int entry = enter(JUDGEMENT, claim, won, 0);
        if (won == 0) {
            claims.state[claim] = DISMISSED;
        } else {
            claims.state[claim] = WON;
            claims.amount[claim] = won;
        }
        return entry;
    }

    public int vacate(int claim) throws IndexOutOfBoundsException, IllegalStateException {
        checkClaim(claim);
        int order = docket.latestOrder(claim);
        allow(order != NONE && canBeVacated(order));
        int entry = enter(VACATE, claim, order, 0);
        docket.isVacated[order] = true;
        // A RULING or a JUDGEMENT is made on a PENDING claim only, and none of them touches the cap.
        claims.state[claim] = PENDING;
        claims.amount[claim] = docket.amountAhead[order];
        return entry;
    }

    public int appeal(int claim) throws IndexOutOfBoundsException, IllegalStateException {
        checkClaim(claim);
        allow(claims.state[claim] == WON && claims.paid[claim] == 0
            && docket.appealsSinceJudgement(claim) < MOST_APPEALS && !isLate(docket.appealStart(claim)));
        int entry = enter(APPEAL, claim, 0, 0);
        claims.state[claim] = APPEALED;
        return entry;
    }

    public int decide(int claim, int outcome, int cap)
            throws IndexOutOfBoundsException, IllegalArgumentException, IllegalStateException {
        checkClaim(claim);
        if (outcome < AFFIRMS || outcome > SENDS_BACK) {
            throw new IllegalArgumentException("outcome out of range");
        }
        if (outcome == SENDS_BACK && (cap < 0 || cap > claims.amount[claim])) {
            throw new IllegalArgumentException("cap out of range");
        }
        allow(claims.state[claim] == APPEALED);
        int judgement = docket.latest(JUDGEMENT, claim);
        int entry = enter(DECISION, claim, outcome, outcome == SENDS_BACK ? cap : 0);
        claims.state[claim] = stateByDecision(outcome);
        if (outcome == SENDS_BACK) {
            claims.cap[claim] = cap;
            if (judgement != NONE) {
                claims.amount[claim] = docket.amountAhead[judgement];
            }
        }
        return entry;
    }

    public int settle(int claim) throws IndexOutOfBoundsException, IllegalStateException {
        checkClaim(claim);
        int state = claims.state[claim];
        allow(state == PENDING || state == WON || state == APPEALED);
        int entry = enter(SETTLE, claim, 0, 0);
        claims.state[claim] = SETTLED;
        return entry;
    }

    public int pay(int claim, int amount)
            throws IndexOutOfBoundsException, IllegalArgumentException, IllegalStateException {
        checkClaim(claim);
        checkAmount(amount, MOST_PAID);
        allow(claims.state[claim] == WON && amount <= balanceNow(claim));
        enter(PAY, claim, amount, 0);
        claims.paid[claim] += amount;
        int left = balanceNow(claim);
        if (left == 0) {
            claims.state[claim] = PAID;
        }
        return left;
    }

    public int stay(int number, boolean isOn) throws IndexOutOfBoundsException, IllegalStateException {
        checkCase(number);
        allow(calendar.isStayOn(number) != isOn);
        int entry = enter(isOn ? STAY : LIFT, number, 0, 0);
        calendar.turnStay(number, isOn);
        return entry;
    }

    public int defect(int entry) throws IndexOutOfBoundsException, IllegalStateException {
        checkEntry(entry);
        int kind = docket.kind[entry];
        boolean canHaveOne = kind == ANSWER || kind == MOTION || kind == RESPONSE;
        if (!canHaveOne || docket.hasDefect(entry)) {
            throw new IllegalStateException("it can get no defect");
        }
        docket.defectDay[entry] = calendar.now;
        docket.cureDays[entry] = calendar.ruleDays[CURE_RULE];
        docket.isCureWorking[entry] = calendar.isRuleWorking[CURE_RULE];
        return cureDue(entry);
    }

    public boolean cure(int entry) throws IndexOutOfBoundsException, IllegalStateException {
        checkEntry(entry);
        if (!docket.hasDefect(entry) || docket.isCured[entry] || calendar.isPast(cureDue(entry))) {
            throw new IllegalStateException("it cannot be cured");
        }
        docket.isCured[entry] = true;
        return true;
    }

    public int extend(int sort, int number, int days)
            throws IndexOutOfBoundsException, IllegalArgumentException, IllegalStateException {
        if (sort == FOR_CURE) {
            throw new IndexOutOfBoundsException("no deadline of this sort is extended");
        }
        checkDeadline(sort, number);
        checkDays(days);
        int start = startOf(sort, number);
        int before = start == NONE ? NONE : dueFrom(start);
        if (start == NONE || before == NONE || calendar.isPast(before)) {
            throw new IllegalStateException("it cannot be extended");
        }
        docket.days[start] += days;
        return dueFrom(start);
    }

    // ---- hearings, juries, exhibits, seals, classes

    public int hearing(int number, int day, int slot)
            throws IndexOutOfBoundsException, IllegalArgumentException, IllegalStateException {
        checkCase(number);
        if (slot < 0 || slot >= SLOTS) {
            throw new IndexOutOfBoundsException("no such slot");
        }
        if (day <= calendar.now || day > LAST_SET) {
            throw new IllegalArgumentException("day out of range");
        }
        if (calendar.isFree(day) || hearings.count >= MOST_HEARINGS || meetsOther(NONE, number, day, slot)) {
            throw new IllegalStateException("no hearing can be then");
        }
        return hearings.add(number, day, slot);
    }

    public int continueHearing(int hearing) throws IndexOutOfBoundsException, IllegalStateException {
        checkHearing(hearing);
        int time = hearings.day[hearing] > calendar.now ? nextTime(hearing) : NONE;
        if (time == NONE) {
            throw new IllegalStateException("it cannot be continued");
        }
        hearings.day[hearing] = time / 10;
        hearings.slot[hearing] = time % 10;
        return time;
    }

    public int strike(int number, int side, int juror) throws IndexOutOfBoundsException, IllegalStateException {
        checkCase(number);
        checkSide(side);
        checkJuror(juror);
        if (juries.isDone(number) || juries.turn(number) != side || juries.isStruck(number, juror)) {
            throw new IllegalStateException("this strike cannot be");
        }
        juries.addStrike(number, juror);
        return juries.strikes[number];
    }

    public int dismiss(int number, int juror) throws IndexOutOfBoundsException, IllegalStateException {
        checkCase(number);
        checkJuror(juror);
        int place = juries.placeOf(number, juror);
        int alternate = juries.nextAlternate(number);
        if (place == NONE || alternate == NONE) {
            throw new IllegalStateException("no one can be seated instead");
        }
        juries.reseat(number, place, alternate);
        return alternate;
    }

    public int seat(int number, int seat) throws IndexOutOfBoundsException {
        checkCase(number);
        if (seat < 0 || seat > SEATS) {
            throw new IndexOutOfBoundsException("no such seat");
        }
        return seat == SEATS ? juries.nextAlternate(number) : juries.inSeat(number, seat);
    }

    public int exhibit(int number, int person) throws IndexOutOfBoundsException, IllegalStateException {
        checkCase(number);
        checkPerson(person);
        if (exhibits.count >= MOST_EXHIBITS) {
            throw new IllegalStateException("too many exhibits");
        }
        return exhibits.add(person);
    }

    public boolean hand(int exhibit, int from, int to) throws IndexOutOfBoundsException {
        checkExhibit(exhibit);
        checkPerson(from);
        checkPerson(to);
        if (exhibits.holder[exhibit] != from) {
            exhibits.isBroken[exhibit] = true;
        }
        exhibits.holder[exhibit] = to;
        return !exhibits.isBroken[exhibit];
    }

    public void object(int exhibit, int side) throws IndexOutOfBoundsException, IllegalStateException {
        checkExhibit(exhibit);
        checkSide(side);
        if (exhibits.objection[exhibit][side] != UNRAISED) {
            throw new IllegalStateException("the side has objected");
        }
        exhibits.objection[exhibit][side] = RAISED;
    }

    public void sustain(int exhibit, int side, boolean isSustained)
            throws IndexOutOfBoundsException, IllegalStateException {
        checkExhibit(exhibit);
        checkSide(side);
        if (exhibits.objection[exhibit][side] != RAISED) {
            throw new IllegalStateException("no objection waits");
        }
        exhibits.objection[exhibit][side] = isSustained ? SUSTAINED : OVERRULED;
    }

    public boolean isAdmitted(int exhibit) throws IndexOutOfBoundsException {
        checkExhibit(exhibit);
        return !exhibits.isBroken[exhibit] && !exhibits.isOpposed(exhibit);
    }

    public boolean seal(int entry, boolean isSealed) throws IndexOutOfBoundsException {
        checkEntry(entry);
        boolean isChanged = seals.isSealed(entry, calendar.now) != isSealed;
        if (isChanged) {
            seals.add(entry, calendar.now, isSealed);
        }
        return isChanged;
    }

    public boolean maySee(int entry, int person, int day)
            throws IndexOutOfBoundsException, IllegalArgumentException {
        checkEntry(entry);
        checkPerson(person);
        if (day < 0 || day > calendar.now) {
            throw new IllegalArgumentException("day out of range");
        }
        if (seals.isSealed(entry, day)) {
            return cases.wasParty(caseOfEntry(entry), person, day);
        }
        return day >= docket.day[entry];
    }

    public void certify(int claim) throws IndexOutOfBoundsException, IllegalStateException {
        checkClaim(claim);
        if (claims.members[claim] != 0 || claims.state[claim] != PENDING) {
            throw new IllegalStateException("it cannot be made a class");
        }
        claims.members[claim] = 1 << claims.from[claim];
    }

    public int member(int claim, int person, boolean isIn) throws IndexOutOfBoundsException, IllegalStateException {
        checkClaim(claim);
        checkPerson(person);
        boolean goesOut = !isIn && person == claims.from[claim];
        if (claims.members[claim] == 0 || claims.state[claim] != PENDING || goesOut) {
            throw new IllegalStateException("membership cannot change");
        }
        claims.setMember(claim, person, isIn);
        return claims.memberCount(claim);
    }

    public int share(int claim, int person) throws IndexOutOfBoundsException {
        checkClaim(claim);
        checkPerson(person);
        int members = claims.memberCount(claim);
        if (members == 0 || !claims.isMember(claim, person)) {
            return 0;
        }
        return claims.paid[claim] / members;
    }

    // ---- what is asked

    public int today() {
        return calendar.now;
    }

    public int entries() {
        return docket.count;
    }

    public int entryAt(int entry, int part) throws IndexOutOfBoundsException {
        checkEntry(entry);
        switch (part) {
            case 0:
                return docket.kind[entry];
            case 1:
                return docket.day[entry];
            case 2:
                return docket.about[entry];
            case 3:
                return docket.detail[entry];
            case 4:
                return docket.other[entry];
            default:
                throw new IndexOutOfBoundsException("no such part");
        }
    }

    public boolean counts(int entry) throws IndexOutOfBoundsException {
        checkEntry(entry);
        return isCounting(entry);
    }

    public int stateOf(int claim) throws IndexOutOfBoundsException {
        checkClaim(claim);
        return claims.state[claim];
    }

    public int stateByDocket(int claim) throws IndexOutOfBoundsException {
        checkClaim(claim);
        int state = PENDING;
        int amount = 0;
        int judged = 0;
        int paid = 0;
        for (int entry = 0; entry < docket.count; entry++) {
            if (!docket.isOfClaim(entry, claim)) {
                continue;
            }
            int detail = docket.detail[entry];
            switch (docket.kind[entry]) {
                case RULING:
                    state = detail == GRANTED ? DISMISSED : state;
                    break;
                case JUDGEMENT:
                    state = detail == 0 ? DISMISSED : WON;
                    amount = detail;
                    judged = docket.day[entry];
                    break;
                case VACATE:
                    // What can be vacated was made on a PENDING claim.
                    state = PENDING;
                    break;
                case APPEAL:
                    state = APPEALED;
                    break;
                case DECISION:
                    state = stateByDecision(detail);
                    break;
                case SETTLE:
                    state = SETTLED;
                    break;
                case PAY:
                    paid += detail;
                    state = owed(amount, judged, docket.day[entry]) == paid ? PAID : state;
                    break;
                default:
                    break;
            }
        }
        return state;
    }

    public int amountOf(int claim) throws IndexOutOfBoundsException {
        checkClaim(claim);
        return claims.amount[claim];
    }

    public int balance(int claim) throws IndexOutOfBoundsException {
        checkClaim(claim);
        return balanceNow(claim);
    }

    public int caseOf(int claim) throws IndexOutOfBoundsException {
        checkClaim(claim);
        return claims.inCase[claim];
    }

    public boolean isAnswered(int claim) throws IndexOutOfBoundsException {
        checkClaim(claim);
        return hasAnswer(claim);
    }

    public int due(int sort, int number) throws IndexOutOfBoundsException {
        checkDeadline(sort, number);
        int start = startOf(sort, number);
        if (start == NONE) {
            return NONE;
        }
        return sort == FOR_CURE ? cureDue(start) : dueFrom(start);
    }

    public int dueByDays(int sort, int number) throws IndexOutOfBoundsException {
        checkDeadline(sort, number);
        int start = startOf(sort, number);
        if (start == NONE) {
            return NONE;
        }
        int own = claims.inCase[docket.about[start]];
        int leader = cases.leader[own];
        if (sort == FOR_CURE) {
            return calendar.endByDays(docket.defectDay[start], docket.cureDays[start], docket.isCureWorking[start],
                own, leader);
        }
        return calendar.endByDays(docket.day[start], docket.days[start], docket.isWorking[start], own, leader);
    }

    public int hearingAt(int hearing) throws IndexOutOfBoundsException {
        checkHearing(hearing);
        return 10 * hearings.day[hearing] + hearings.slot[hearing];
    }

    // ---- checks of arguments

    private void checkDays(int days) {
        if (days < 1 || days > MOST_DAYS) {
            throw new IllegalArgumentException("days out of range");
        }
    }

    private void checkAmount(int amount, int most) {
        if (amount < 1 || amount > most) {
            throw new IllegalArgumentException("amount out of range");
        }
    }

    private void checkCase(int number) {
        if (number < 0 || number >= cases.count) {
            throw new IndexOutOfBoundsException("no such case");
        }
    }

    private void checkPerson(int person) {
        if (person < 0 || person >= PERSONS) {
            throw new IndexOutOfBoundsException("no such person");
        }
    }

    private void checkSide(int side) {
        if (side < 0 || side >= SIDES) {
            throw new IndexOutOfBoundsException("no such side");
        }
    }

    private void checkClaim(int claim) {
        if (claim < 0 || claim >= claims.count) {
            throw new IndexOutOfBoundsException("no such claim");
        }
    }

    private void checkEntry(int entry) {
        if (entry < 0 || entry >= docket.count) {
            throw new IndexOutOfBoundsException("no such entry");
        }
    }

    private void checkMotion(int motion) {
        checkEntry(motion);
        if (docket.kind[motion] != MOTION) {
            throw new IndexOutOfBoundsException("no such motion");
        }
    }

    private void checkDeadline(int sort, int number) {
        if (sort < 0 || sort >= SORTS) {
            throw new IndexOutOfBoundsException("no such sort");
        }
        if (sort == FOR_RESPONSE) {
            checkMotion(number);
        } else if (sort == FOR_CURE) {
            checkEntry(number);
        } else {
            checkClaim(number);
        }
    }

    private void checkHearing(int hearing) {
        if (hearing < 0 || hearing >= hearings.count) {
            throw new IndexOutOfBoundsException("no such hearing");
        }
    }

    private void checkJuror(int juror) {
        if (juror < 0 || juror >= JURORS) {
            throw new IndexOutOfBoundsException("no such juror");
        }
    }

    private void checkExhibit(int exhibit) {
        if (exhibit < 0 || exhibit >= exhibits.count) {
            throw new IndexOutOfBoundsException("no such exhibit");
        }
    }

    /** Refuses an entry that is not possible, or for which the docket has no room. */
    private void allow(boolean isPossible) {
        if (!isPossible || docket.count >= MOST_ENTRIES) {
            throw new IllegalStateException("no such entry can be made");
        }
    }

    // ---- entries and what they are worth

    /** Makes an entry, with the rule in force for the deadline that begins with one of its kind. */
    private int enter(int kind, int about, int detail, int other) {
        int entry = docket.add(kind, calendar.now, about);
        docket.detail[entry] = detail;
        docket.other[entry] = other;
        if (kind == RULING || kind == JUDGEMENT) {
            docket.amountAhead[entry] = claims.amount[about];
        }
        int rule = ruleOf(kind);
        if (rule != NONE) {
            docket.days[entry] = calendar.ruleDays[rule];
            docket.isWorking[entry] = calendar.isRuleWorking[rule];
        }
        return entry;
    }

    private static int ruleOf(int kind) {
        switch (kind) {
            case SERVE:
                return ANSWER_RULE;
            case MOTION:
                return RESPONSE_RULE;
            case JUDGEMENT:
            case DECISION:
                return APPEAL_RULE;
            case RULING:
            case VACATE:
                return AFTER_RULE;
            default:
                return NONE;
        }
    }

    private static int stateByDecision(int outcome) {
        if (outcome == AFFIRMS) {
            return WON;
        }
        return outcome == TURNS_ROUND ? DISMISSED : PENDING;
    }

    private boolean isCounting(int entry) {
        return !docket.hasDefect(entry) || docket.isCured[entry] || !calendar.isPast(cureDue(entry));
    }

    private boolean isOpenMotion(int motion) {
        return !docket.isRuled[motion] && isCounting(motion);
    }

    private boolean hasOpenMotion(int claim) {
        for (int entry = 0; entry < docket.count; entry++) {
            if (docket.kind[entry] == MOTION && docket.about[entry] == claim && isOpenMotion(entry)) {
                return true;
            }
        }
        return false;
    }

    private boolean hasResponse(int motion) {
        for (int entry = motion; entry < docket.count; entry++) {
            if (docket.kind[entry] == RESPONSE && docket.detail[entry] == motion && isCounting(entry)) {
                return true;
            }
        }
        return false;
    }

    private boolean hasAnswer(int claim) {
        for (int entry = 0; entry < docket.count; entry++) {
            if (docket.kind[entry] == ANSWER && docket.about[entry] == claim && isCounting(entry)) {
                return true;
            }
        }
        return false;
    }

    private boolean isServed(int claim) {
        return docket.latest(SERVE, claim) != NONE;
    }

    /** Whether a claim waits for an answer, in time or not. */
    private boolean isUnanswered(int claim) {
        return claims.state[claim] == PENDING && isServed(claim) && !hasAnswer(claim) && !hasOpenMotion(claim);
    }

    private boolean canBeVacated(int order) {
        int kind = docket.kind[order];
        return kind == JUDGEMENT || kind == RULING && docket.detail[order] != DENIED;
    }

    private int caseOfEntry(int entry) {
        int about = docket.about[entry];
        return docket.isOfCase(entry) ? about : claims.inCase[about];
    }

    // ---- balances

    private int balanceNow(int claim) {
        int judgement = docket.latest(JUDGEMENT, claim);
        if (claims.state[claim] != WON || judgement == NONE) {
            return 0;
        }
        return owed(claims.amount[claim], docket.day[judgement], calendar.now) - claims.paid[claim];
    }

    private static int owed(int amount, int judged, int day) {
        int months = (day - judged) / 30;
        return amount + amount * months / 100;
    }

    // ---- deadlines

    /** The entry with which a deadline begins, that with the defect for a cure; NONE if it has not begun. */
    private int startOf(int sort, int number) {
        switch (sort) {
            case FOR_ANSWER:
                return hasOpenMotion(number) ? NONE : docket.answerStart(number);
            case FOR_RESPONSE:
                return number;
            case FOR_APPEAL:
                return claims.state[number] == WON ? docket.appealStart(number) : NONE;
            default:
                return docket.hasDefect(number) ? number : NONE;
        }
    }

    private int dueFrom(int start) {
        int stays = cases.stayMarks(claims.inCase[docket.about[start]]);
        return calendar.end(docket.day[start], docket.days[start], docket.isWorking[start], stays);
    }

    private int cureDue(int entry) {
        int stays = cases.stayMarks(claims.inCase[docket.about[entry]]);
        return calendar.end(docket.defectDay[entry], docket.cureDays[entry], docket.isCureWorking[entry], stays);
    }

    /** Whether today is behind the deadline that begins with an entry. */
    private boolean isLate(int start) {
        return start != NONE && calendar.isPast(dueFrom(start));
    }

    // ---- hearings

    /** Whether a hearing of a case would meet another one then; the one that moves is not looked at. */
    private boolean meetsOther(int moving, int number, int day, int slot) {
        for (int other = 0; other < hearings.count; other++) {
            boolean isThen = hearings.day[other] == day && hearings.slot[other] == slot;
            if (other != moving && isThen && cases.areBound(number, hearings.inCase[other])) {
                return true;
            }
        }
        return false;
    }

    /** The first time behind its day at which a hearing meets no other one, as hearingAt tells it. */
    private int nextTime(int hearing) {
        for (int day = hearings.day[hearing] + 1; day <= LAST_CONTINUED; day++) {
            if (calendar.isFree(day)) {
                continue;
            }
            for (int slot = 0; slot < SLOTS; slot++) {
                if (!meetsOther(hearing, hearings.inCase[hearing], day, slot)) {
                    return 10 * day + slot;
                }
            }
        }
        return NONE;
    }

    /** Days, holidays, rules, and the days on which each case is stayed. */
    private static final class Calendar {
        private static final int FREE = 1 << MOST_CASES;

        int now;
        /** For each day FREE, and the bit of each case that is stayed on it, as far as is known today. */
        final int[] marks = new int[LAST_DEADLINE + 1];
        final int[] holidays = new int[MOST_HOLIDAYS];
        int holidayCount;
        final int[] ruleDays = FIRST_RULE_DAYS.clone();
        final boolean[] isRuleWorking = new boolean[RULES];
        /** The days of the STAYs and LIFTs of each case, which take turns. */
        final int[][] turns = new int[MOST_CASES][MOST_ENTRIES];
        final int[] turnCount = new int[MOST_CASES];

        Calendar() {
            isRuleWorking[CURE_RULE] = true;
            for (int day = 0; day <= LAST_DEADLINE; day++) {
                marks[day] = isWeekend(day) ? FREE : 0;
            }
        }

        private static boolean isWeekend(int day) {
            return day % 7 >= 5;
        }

        boolean isFree(int day) {
            return (marks[day] & FREE) != 0;
        }

        boolean isHoliday(int day) {
            for (int i = 0; i < holidayCount; i++) {
                if (holidays[i] == day) {
                    return true;
                }
            }
            return false;
        }

        void addHoliday(int day) {
            holidays[holidayCount] = day;
            holidayCount++;
            marks[day] |= FREE;
        }

        boolean isStayOn(int number) {
            return turnCount[number] % 2 == 1;
        }

        /** Days behind today are stayed as if no LIFT came; the LIFT takes them back. */
        void turnStay(int number, boolean isOn) {
            turns[number][turnCount[number]] = now;
            turnCount[number]++;
            int mark = 1 << number;
            for (int day = now; day <= LAST_DEADLINE; day++) {
                marks[day] = isOn ? marks[day] | mark : marks[day] & ~mark;
            }
        }

        boolean isPast(int due) {
            return due != NONE && now > due;
        }

        /** The end of a deadline; stays holds the bits of the cases whose stays stop it. */
        int end(int begin, int days, boolean isWorking, int stays) {
            int left = days;
            for (int day = begin + 1; day <= LAST_DEADLINE; day++) {
                if ((marks[day] & stays) != 0) {
                    continue;
                }
                boolean isFree = (marks[day] & FREE) != 0;
                if (left > 0 && !(isWorking && isFree)) {
                    left--;
                }
                if (left == 0 && !isFree) {
                    return day;
                }
            }
            return NONE;
        }

        /** The same without the marks: each day is looked up among holidays, STAYs and LIFTs. */
        int endByDays(int begin, int days, boolean isWorking, int own, int leader) {
            int counted = 0;
            for (int day = begin + 1; day <= LAST_DEADLINE; day++) {
                boolean isFree = isWeekend(day) || isHoliday(day);
                boolean isStayed = isStayedOn(own, day) || leader != NONE && isStayedOn(leader, day);
                boolean isCounted = !isStayed && (!isFree || !isWorking);
                if (isCounted && counted < days) {
                    counted++;
                }
                if (counted == days && !isFree && !isStayed) {
                    return day;
                }
            }
            return NONE;
        }

        private boolean isStayedOn(int number, int day) {
            for (int turn = turnCount[number] - 1; turn >= 0; turn--) {
                if (turns[number][turn] <= day) {
                    return turn % 2 == 0;
                }
            }
            return false;
        }
    }

    /** Cases, their judges and parties, and which one leads which. */
    private static final class Cases {
        int count;
        final int[] judge = new int[MOST_CASES];
        final int[] leader = new int[MOST_CASES];
        final int[] parties = new int[MOST_CASES];
        /** The persons of each case, a bit for each. */
        final int[] persons = new int[MOST_CASES];
        final int[][] side = new int[MOST_CASES][PERSONS];
        final int[][] since = new int[MOST_CASES][PERSONS];

        int add(int itsJudge) {
            int number = count;
            judge[number] = itsJudge;
            leader[number] = NONE;
            count++;
            return number;
        }

        boolean isParty(int number, int person) {
            return (persons[number] >> person & 1) == 1;
        }

        boolean wasParty(int number, int person, int day) {
            return isParty(number, person) && since[number][person] <= day;
        }

        void addParty(int number, int person, int itsSide, int day) {
            persons[number] |= 1 << person;
            parties[number]++;
            side[number][person] = itsSide;
            since[number][person] = day;
        }

        boolean areOpposed(int number, int one, int other) {
            return isParty(number, one) && isParty(number, other) && side[number][one] != side[number][other];
        }

        boolean leadsOthers(int number) {
            for (int other = 0; other < count; other++) {
                if (leader[other] == number) {
                    return true;
                }
            }
            return false;
        }

        /** Whether two cases have one judge, or a person in common. */
        boolean areBound(int one, int other) {
            return judgeNow(one) == judgeNow(other) || (persons[one] & persons[other]) != 0;
        }

        private int judgeNow(int number) {
            return leader[number] == NONE ? judge[number] : judge[leader[number]];
        }

        /** The bits of the cases whose stays hold in this one. */
        int stayMarks(int number) {
            int own = 1 << number;
            return leader[number] == NONE ? own : own | 1 << leader[number];
        }
    }

    /** Claims as they are now. */
    private static final class Claims {
        int count;
        final int[] inCase = new int[MOST_CLAIMS];
        final int[] from = new int[MOST_CLAIMS];
        final int[] against = new int[MOST_CLAIMS];
        final int[] amount = new int[MOST_CLAIMS];
        final int[] state = new int[MOST_CLAIMS];
        final int[] cap = new int[MOST_CLAIMS];
        final int[] paid = new int[MOST_CLAIMS];
        /** The members of the class, a bit for each; 0 if it is none, as who claims is always in. */
        final int[] members = new int[MOST_CLAIMS];

        int add(int number, int itsFrom, int itsAgainst, int itsAmount) {
            int claim = count;
            inCase[claim] = number;
            from[claim] = itsFrom;
            against[claim] = itsAgainst;
            amount[claim] = itsAmount;
            state[claim] = PENDING;
            cap[claim] = NONE;
            count++;
            return claim;
        }

        boolean isEnded(int claim) {
            return state[claim] == SETTLED || state[claim] == PAID;
        }

        boolean isAboveCap(int claim, int sum) {
            return cap[claim] != NONE && sum > cap[claim];
        }

        int amountByDefault(int claim) {
            return isAboveCap(claim, amount[claim]) ? cap[claim] : amount[claim];
        }

        boolean isMember(int claim, int person) {
            return (members[claim] >> person & 1) == 1;
        }

        void setMember(int claim, int person, boolean isIn) {
            int mark = 1 << person;
            members[claim] = isIn ? members[claim] | mark : members[claim] & ~mark;
        }

        int memberCount(int claim) {
            return Integer.bitCount(members[claim]);
        }
    }

    /** The entries, with what of them a later one may need. */
    private static final class Docket {
        int count;
        final int[] kind = new int[MOST_ENTRIES];
        final int[] day = new int[MOST_ENTRIES];
        /** The claim; the case of a STAY or a LIFT. */
        final int[] about = new int[MOST_ENTRIES];
        /** Parts 3 and 4 of entryAt. */
        final int[] detail = new int[MOST_ENTRIES];
        final int[] other = new int[MOST_ENTRIES];
        /** The amount of its claim ahead of a RULING or a JUDGEMENT. */
        final int[] amountAhead = new int[MOST_ENTRIES];
        final boolean[] isVacated = new boolean[MOST_ENTRIES];
        /** Whether there is a RULING on a MOTION, vacated or not. */
        final boolean[] isRuled = new boolean[MOST_ENTRIES];
        /** The number of days of the deadline that begins with the entry, all that extends it with it. */
        final int[] days = new int[MOST_ENTRIES];
        final boolean[] isWorking = new boolean[MOST_ENTRIES];
        /** The day on which a defect was told; NONE without one. */
        final int[] defectDay = new int[MOST_ENTRIES];
        final int[] cureDays = new int[MOST_ENTRIES];
        final boolean[] isCureWorking = new boolean[MOST_ENTRIES];
        final boolean[] isCured = new boolean[MOST_ENTRIES];

        int add(int itsKind, int itsDay, int itsAbout) {
            int entry = count;
            kind[entry] = itsKind;
            day[entry] = itsDay;
            about[entry] = itsAbout;
            defectDay[entry] = NONE;
            count++;
            return entry;
        }

        boolean isOfCase(int entry) {
            return kind[entry] == STAY || kind[entry] == LIFT;
        }

        boolean isOfClaim(int entry, int claim) {
            return about[entry] == claim && !isOfCase(entry);
        }

        boolean hasDefect(int entry) {
            return defectDay[entry] != NONE;
        }

        int latest(int itsKind, int claim) {
            for (int entry = count - 1; entry >= 0; entry--) {
                if (kind[entry] == itsKind && about[entry] == claim) {
                    return entry;
                }
            }
            return NONE;
        }

        /** The latest of the entries that VACATE looks at. */
        int latestOrder(int claim) {
            for (int entry = count - 1; entry >= 0; entry--) {
                boolean isOrder = kind[entry] >= RULING && kind[entry] <= PAY && kind[entry] != VACATE;
                if (isOrder && about[entry] == claim && !isVacated[entry]) {
                    return entry;
                }
            }
            return NONE;
        }

        int appealsSinceJudgement(int claim) {
            int appeals = 0;
            for (int entry = count - 1; entry >= 0; entry--) {
                if (about[entry] != claim) {
                    continue;
                }
                if (kind[entry] == JUDGEMENT) {
                    return appeals;
                }
                if (kind[entry] == APPEAL) {
                    appeals++;
                }
            }
            return appeals;
        }

        /** The entry with which the deadline for an answer begins, open MOTIONs not looked at. */
        int answerStart(int claim) {
            for (int entry = count - 1; entry >= 0; entry--) {
                if (isOfClaim(entry, claim) && (kind[entry] == SERVE || beginsAnew(entry))) {
                    return entry;
                }
            }
            return NONE;
        }

        private boolean beginsAnew(int entry) {
            if (kind[entry] == VACATE) {
                return kind[detail[entry]] == RULING;
            }
            return kind[entry] == RULING && detail[entry] != GRANTED;
        }

        int appealStart(int claim) {
            return Math.max(latest(JUDGEMENT, claim), latest(DECISION, claim));
        }
    }

    /** Hearings and when they are. */
    private static final class Hearings {
        int count;
        final int[] inCase = new int[MOST_HEARINGS];
        final int[] day = new int[MOST_HEARINGS];
        final int[] slot = new int[MOST_HEARINGS];

        int add(int number, int itsDay, int itsSlot) {
            int hearing = count;
            inCase[hearing] = number;
            day[hearing] = itsDay;
            slot[hearing] = itsSlot;
            count++;
            return hearing;
        }
    }

    /** The juries, one for each case. */
    private static final class Juries {
        final int[] strikes = new int[MOST_CASES];
        /** The jurors that were struck, a bit for each. */
        final int[] struck = new int[MOST_CASES];
        /** The seats of each case, then its alternates. */
        final int[][] places = new int[MOST_CASES][SEATS + ALTERNATES];
        final int[] alternatesGone = new int[MOST_CASES];

        boolean isDone(int number) {
            return strikes[number] >= MOST_STRIKES;
        }

        int turn(int number) {
            return strikes[number] % SIDES;
        }

        boolean isStruck(int number, int juror) {
            return (struck[number] >> juror & 1) == 1;
        }

        void addStrike(int number, int juror) {
            struck[number] |= 1 << juror;
            strikes[number]++;
            if (isDone(number)) {
                fillPlaces(number);
            }
        }

        private void fillPlaces(int number) {
            int place = 0;
            for (int juror = 0; juror < JURORS && place < SEATS + ALTERNATES; juror++) {
                if (!isStruck(number, juror)) {
                    places[number][place] = juror;
                    place++;
                }
            }
        }

        int inSeat(int number, int seat) {
            return isDone(number) ? places[number][seat] : NONE;
        }

        int nextAlternate(int number) {
            if (!isDone(number) || alternatesGone[number] >= ALTERNATES) {
                return NONE;
            }
            return places[number][SEATS + alternatesGone[number]];
        }

        int placeOf(int number, int juror) {
            for (int seat = 0; seat < SEATS; seat++) {
                if (inSeat(number, seat) == juror) {
                    return seat;
                }
            }
            return NONE;
        }

        void reseat(int number, int place, int alternate) {
            places[number][place] = alternate;
            alternatesGone[number]++;
        }
    }

    /** Exhibits; nothing that is asked of one depends on its case, so that is not kept. */
    private static final class Exhibits {
        int count;
        final int[] holder = new int[MOST_EXHIBITS];
        final boolean[] isBroken = new boolean[MOST_EXHIBITS];
        final int[][] objection = new int[MOST_EXHIBITS][SIDES];

        int add(int person) {
            int exhibit = count;
            holder[exhibit] = person;
            count++;
            return exhibit;
        }

        boolean isOpposed(int exhibit) {
            for (int side = 0; side < SIDES; side++) {
                int raised = objection[exhibit][side];
                if (raised == RAISED || raised == SUSTAINED) {
                    return true;
                }
            }
            return false;
        }
    }

    /** Sealings and unsealings, in the order in which they were. */
    private static final class Seals {
        int count;
        final int[] entry = new int[MOST_CALLS];
        final int[] day = new int[MOST_CALLS];
        final boolean[] isOn = new boolean[MOST_CALLS];

        boolean isSealed(int itsEntry, int itsDay) {
            for (int i = count - 1; i >= 0; i--) {
                if (entry[i] == itsEntry && day[i] <= itsDay) {
                    return isOn[i];
                }
            }
            return false;
        }

        void add(int itsEntry, int itsDay, boolean isSealed) {
            // What calls behind the 512th answer is free, but they must not run out of the rows.
            if (count < MOST_CALLS) {
                entry[count] = itsEntry;
                day[count] = itsDay;
                isOn[count] = isSealed;
                count++;
            }
        }
    }
}
