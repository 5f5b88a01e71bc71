import java.util.ArrayList;
import java.util.HashMap;
import java.util.HashSet;
import java.util.List;
import java.util.Map;
import java.util.Set;
import java.util.TreeMap;

/**
 * The document once more, as naively as can be: what is asked is found by going through all that was ever done.
 * Its calls bear the names of those of Courtdocket, so that CompareTest can make the same calls on both.
 */
public final class Model {
    private static final int NONE = -1;

    private record Rule(int days, boolean isWorking) {
    }

    private record Party(int side, int since) {
    }

    private record Status(int state, int amount, int cap) {
    }

    private record Turn(int day, boolean isOn) {
    }

    private static final class Case {
        int judge;
        int leader = NONE;
        final Map<Integer, Party> parties = new HashMap<>();
        final List<Integer> struck = new ArrayList<>();
        final List<Integer> dismissed = new ArrayList<>();
    }

    private static final class Claim {
        int number;
        int from;
        int against;
        int amount;
        Set<Integer> members;
    }

    private static final class Entry {
        int kind;
        int day;
        int about;
        int part3;
        int part4;
        Status ahead;
        Rule[] rules;
        int added;
        int defectDay = NONE;
        Rule cureRule;
        boolean isCured;
        final List<Turn> seals = new ArrayList<>();
    }

    private static final class Hearing {
        int number;
        int day;
        int slot;
    }

    private static final class Exhibit {
        int holder;
        boolean isBroken;
        final Boolean[] hasObjected = new Boolean[2];
        final Boolean[] isSustained = new Boolean[2];
    }

    private int today;
    private final Set<Integer> holidays = new HashSet<>();
    private final Rule[] rules = {new Rule(21, false), new Rule(14, false), new Rule(30, false), new Rule(14, false),
        new Rule(5, true)};
    private final List<Case> cases = new ArrayList<>();
    private final List<Claim> claims = new ArrayList<>();
    private final List<Entry> docket = new ArrayList<>();
    private final List<Hearing> hearings = new ArrayList<>();
    private final List<Exhibit> exhibits = new ArrayList<>();

    private static void range(boolean isRight) {
        if (!isRight) {
            throw new IndexOutOfBoundsException();
        }
    }

    private static void argument(boolean isRight) {
        if (!isRight) {
            throw new IllegalArgumentException();
        }
    }

    private static void state(boolean isRight) {
        if (!isRight) {
            throw new IllegalStateException();
        }
    }

    private static boolean in(int x, int low, int high) {
        return low <= x && x <= high;
    }

    private Case caseAt(int number) {
        range(in(number, 0, cases.size() - 1));
        return cases.get(number);
    }

    private Claim claimAt(int claim) {
        range(in(claim, 0, claims.size() - 1));
        return claims.get(claim);
    }

    private Entry at(int entry) {
        range(in(entry, 0, docket.size() - 1));
        return docket.get(entry);
    }

    private Entry motionAt(int motion) {
        Entry found = at(motion);
        range(found.kind == 2);
        return found;
    }

    private Hearing hearingOf(int hearing) {
        range(in(hearing, 0, hearings.size() - 1));
        return hearings.get(hearing);
    }

    private Exhibit exhibitAt(int exhibit) {
        range(in(exhibit, 0, exhibits.size() - 1));
        return exhibits.get(exhibit);
    }

    private static void person(int person) {
        range(in(person, 0, 15));
    }

    private static void side(int side) {
        range(in(side, 0, 1));
    }

    // ---- days

    public int pass(int days) {
        argument(in(days, 1, 60));
        state(today + days <= 900);
        today += days;
        return today;
    }

    private boolean isFree(int day) {
        return day % 7 == 5 || day % 7 == 6 || holidays.contains(day);
    }

    public boolean holiday(int day) {
        argument(in(day, 0, 1000));
        state(day > today && !holidays.contains(day) && holidays.size() < 30);
        boolean wasFree = isFree(day);
        holidays.add(day);
        return !wasFree;
    }

    public int setRule(int rule, int days, boolean isWorking) {
        range(in(rule, 0, 4));
        argument(in(days, 1, 60));
        int before = rules[rule].days;
        rules[rule] = new Rule(days, isWorking);
        return before;
    }

    public int today() {
        return today;
    }

    // ---- cases

    public int open(int judge) {
        range(in(judge, 0, 2));
        state(cases.size() < 8);
        Case made = new Case();
        made.judge = judge;
        cases.add(made);
        return cases.size() - 1;
    }

    public int join(int number, int person, int side) {
        Case joined = caseAt(number);
        person(person);
        side(side);
        state(!joined.parties.containsKey(person));
        joined.parties.put(person, new Party(side, today));
        return joined.parties.size();
    }

    public int lead(int number, int by) {
        Case led = caseAt(number);
        int before = led.leader;
        if (by != NONE) {
            Case leader = caseAt(by);
            state(leader != led);
            for (Case other : cases) {
                state(other.leader != number);
            }
            state(leader.leader == NONE);
        }
        led.leader = by;
        return before;
    }

    public int claim(int number, int from, int against, int amount) {
        Case inCase = caseAt(number);
        person(from);
        person(against);
        argument(in(amount, 1, 99999));
        Party one = inCase.parties.get(from);
        Party other = inCase.parties.get(against);
        state(one != null && other != null && one.side != other.side && claims.size() < 24);
        Claim made = new Claim();
        made.number = number;
        made.from = from;
        made.against = against;
        made.amount = amount;
        claims.add(made);
        return claims.size() - 1;
    }

    public int sever(int claim) {
        Claim severed = claimAt(claim);
        int state = status(claim).state;
        state(state != 4 && state != 5);
        state(cases.size() < 8);
        Case old = cases.get(severed.number);
        int number = open(old.judge);
        join(number, severed.from, old.parties.get(severed.from).side);
        join(number, severed.against, old.parties.get(severed.against).side);
        severed.number = number;
        return number;
    }

    // ---- what follows from the docket

    private static boolean isOf(Entry entry, int claim, int... kinds) {
        for (int kind : kinds) {
            if (entry.kind == kind && entry.about == claim) {
                return true;
            }
        }
        return false;
    }

    private Entry latest(int claim, int... kinds) {
        Entry found = null;
        for (Entry entry : docket) {
            if (isOf(entry, claim, kinds)) {
                found = entry;
            }
        }
        return found;
    }

    /** Goes through the docket, and notes what was ahead of each entry of the claim. */
    private Status status(int claim) {
        int amount = claims.get(claim).amount;
        Status now = new Status(0, amount, NONE);
        Status aheadOfJudgement = now;
        Entry judgement = null;
        int paid = 0;
        for (Entry entry : docket) {
            if (entry.kind >= 11 || entry.about != claim) {
                continue;
            }
            entry.ahead = now;
            if (entry.kind == 4 && entry.part3 == 0) {
                now = new Status(1, now.amount, now.cap);
            } else if (entry.kind == 4 && entry.part3 > 0) {
                now = new Status(now.state, entry.part3, now.cap);
            } else if (entry.kind == 5) {
                aheadOfJudgement = now;
                judgement = entry;
                now = entry.part3 == 0 ? new Status(1, now.amount, now.cap) : new Status(2, entry.part3, now.cap);
            } else if (entry.kind == 6) {
                now = docket.get(entry.part3).ahead;
            } else if (entry.kind == 7) {
                now = new Status(3, now.amount, now.cap);
            } else if (entry.kind == 8 && entry.part3 < 2) {
                now = new Status(entry.part3 == 0 ? 2 : 1, now.amount, now.cap);
            } else if (entry.kind == 8) {
                now = new Status(0, aheadOfJudgement.amount, entry.part4);
            } else if (entry.kind == 9) {
                now = new Status(4, now.amount, now.cap);
            } else if (entry.kind == 10) {
                paid += entry.part3;
                if (judgement != null && owed(now.amount, judgement.day, entry.day) <= paid) {
                    now = new Status(5, now.amount, now.cap);
                }
            }
        }
        return now;
    }

    private static int owed(int amount, int from, int to) {
        int times = 0;
        for (int day = from + 30; day <= to; day += 30) {
            times++;
        }
        return amount + (int) Math.floor((double) ((long) amount * times) / 100.0);
    }

    private int paid(int claim) {
        int sum = 0;
        for (Entry entry : docket) {
            if (isOf(entry, claim, 10)) {
                sum += entry.part3;
            }
        }
        return sum;
    }

    private boolean isCounting(Entry entry) {
        if (entry.defectDay == NONE || entry.isCured) {
            return true;
        }
        int due = cureDue(entry);
        return due == NONE || today <= due;
    }

    private boolean isOpen(Entry motion) {
        for (Entry entry : docket) {
            if (entry.kind == 4 && docket.get(entry.part4) == motion) {
                return false;
            }
        }
        return isCounting(motion);
    }

    private boolean hasOpenMotion(int claim) {
        for (Entry entry : docket) {
            if (isOf(entry, claim, 2) && isOpen(entry)) {
                return true;
            }
        }
        return false;
    }

    private boolean hasResponse(int motion) {
        for (Entry entry : docket) {
            if (entry.kind == 3 && entry.part3 == motion && isCounting(entry)) {
                return true;
            }
        }
        return false;
    }

    private boolean hasAnswer(int claim) {
        for (Entry entry : docket) {
            if (isOf(entry, claim, 1) && isCounting(entry)) {
                return true;
            }
        }
        return false;
    }

    // ---- deadlines

    private boolean isStayed(int number, int day) {
        boolean isStayed = false;
        for (Entry entry : docket) {
            if (entry.kind >= 11 && entry.about == number && entry.day <= day) {
                isStayed = entry.kind == 11;
            }
        }
        return isStayed;
    }

    private boolean isStayedFor(int claim, int day) {
        int number = claims.get(claim).number;
        int leader = cases.get(number).leader;
        return isStayed(number, day) || leader != NONE && isStayed(leader, day);
    }

    private int end(int claim, int begin, int days, boolean isWorking) {
        int day = begin;
        for (int counted = 0; counted < days; ) {
            day++;
            if (day > 1400) {
                return NONE;
            }
            if (!isStayedFor(claim, day) && !(isWorking && isFree(day))) {
                counted++;
            }
        }
        while (isFree(day) || isStayedFor(claim, day)) {
            day++;
            if (day > 1400) {
                return NONE;
            }
        }
        return day;
    }

    private int cureDue(Entry entry) {
        return end(entry.about, entry.defectDay, entry.cureRule.days, entry.cureRule.isWorking);
    }

    /** The entry with which a deadline begins, or null. */
    private Entry beginning(int sort, int number) {
        if (sort == 1) {
            return docket.get(number);
        }
        if (sort == 2) {
            return status(number).state == 2 ? latest(number, 5, 8) : null;
        }
        if (hasOpenMotion(number)) {
            return null;
        }
        Entry found = latest(number, 0);
        for (Entry entry : docket) {
            boolean isRuling = isOf(entry, number, 4) && entry.part3 != 0;
            if (isRuling || isOf(entry, number, 6) && docket.get(entry.part3).kind == 4) {
                found = entry;
            }
        }
        return found;
    }

    private int endOf(int sort, Entry begun) {
        if (begun == null) {
            return NONE;
        }
        int[] more = {0, 3, 7};
        Rule rule = begun.rules[sort];
        int days = rule.days + begun.added;
        if (sort == 0 && begun.kind == 0) {
            days += more[begun.part3];
        }
        if (sort == 0 && begun.kind != 0) {
            rule = begun.rules[3];
            days = rule.days + begun.added;
        }
        return end(begun.about, begun.day, days, rule.isWorking);
    }

    private boolean isLate(int sort, int number) {
        int due = endOf(sort, beginning(sort, number));
        return due != NONE && today > due;
    }

    public int due(int sort, int number) {
        range(in(sort, 0, 3));
        if (sort == 3) {
            Entry entry = at(number);
            return entry.defectDay == NONE ? NONE : cureDue(entry);
        }
        if (sort == 1) {
            motionAt(number);
        } else {
            claimAt(number);
        }
        return endOf(sort, beginning(sort, number));
    }

    public int dueByDays(int sort, int number) {
        return due(sort, number);
    }

    public int extend(int sort, int number, int days) {
        range(in(sort, 0, 2));
        int due = due(sort, number);
        argument(in(days, 1, 60));
        state(due != NONE && today <= due);
        Entry begun = beginning(sort, number);
        begun.added += days;
        return endOf(sort, begun);
    }

    // ---- entries

    private int enter(int kind, int about, int part3, int part4) {
        Entry made = new Entry();
        made.kind = kind;
        made.day = today;
        made.about = about;
        made.part3 = part3;
        made.part4 = part4;
        made.rules = rules.clone();
        docket.add(made);
        return docket.size() - 1;
    }

    private void allow(boolean isPossible) {
        state(isPossible && docket.size() < 160);
    }

    public int serve(int claim, int way) {
        claimAt(claim);
        range(in(way, 0, 2));
        allow(status(claim).state == 0 && latest(claim, 0) == null);
        return enter(0, claim, way, 0);
    }

    private void allowReply(int claim) {
        claimAt(claim);
        allow(status(claim).state == 0);
        allow(latest(claim, 0) != null);
        allow(!hasAnswer(claim));
        allow(!hasOpenMotion(claim));
        allow(!isLate(0, claim));
    }

    public int answer(int claim) {
        allowReply(claim);
        return enter(1, claim, 0, 0);
    }

    public int motion(int claim) {
        allowReply(claim);
        return enter(2, claim, 0, 0);
    }

    public int respond(int motion) {
        Entry found = motionAt(motion);
        allow(isOpen(found));
        allow(!hasResponse(motion));
        allow(!isLate(1, motion));
        return enter(3, found.about, motion, 0);
    }

    public int ruling(int motion, int amount) {
        Entry found = motionAt(motion);
        Status status = status(found.about);
        argument(amount >= NONE && amount < status.amount);
        allow(isOpen(found));
        allow(status.state == 0);
        allow(hasResponse(motion) || isLate(1, motion));
        return enter(4, found.about, amount, motion);
    }

    public int judge(int claim, int amount) {
        claimAt(claim);
        Status status = status(claim);
        argument(in(amount, NONE, status.amount));
        allow(status.state == 0);
        if (amount == NONE) {
            allow(latest(claim, 0) != null);
            allow(!hasAnswer(claim));
            allow(!hasOpenMotion(claim));
            allow(isLate(0, claim));
            allow(status.cap != 0);
            boolean isCapped = status.cap > 0 && status.cap < status.amount;
            return enter(5, claim, isCapped ? status.cap : status.amount, 0);
        }
        allow(hasAnswer(claim));
        allow(status.cap == NONE || amount <= status.cap);
        return enter(5, claim, amount, 0);
    }

    public int vacate(int claim) {
        claimAt(claim);
        Set<Integer> vacated = new HashSet<>();
        for (Entry entry : docket) {
            if (isOf(entry, claim, 6)) {
                vacated.add(entry.part3);
            }
        }
        int found = NONE;
        for (int i = 0; i < docket.size(); i++) {
            if (isOf(docket.get(i), claim, 4, 5, 7, 8, 9, 10) && !vacated.contains(i)) {
                found = i;
            }
        }
        allow(found != NONE);
        Entry order = docket.get(found);
        allow(order.kind == 5 || order.kind == 4 && order.part3 != NONE);
        return enter(6, claim, found, 0);
    }

    public int appeal(int claim) {
        claimAt(claim);
        allow(status(claim).state == 2);
        allow(paid(claim) == 0);
        int appeals = 0;
        for (Entry entry : docket) {
            if (isOf(entry, claim, 5)) {
                appeals = 0;
            }
            if (isOf(entry, claim, 7)) {
                appeals++;
            }
        }
        allow(appeals <= 1);
        allow(!isLate(2, claim));
        return enter(7, claim, 0, 0);
    }

    public int decide(int claim, int outcome, int cap) {
        claimAt(claim);
        argument(in(outcome, 0, 2));
        argument(outcome != 2 || in(cap, 0, status(claim).amount));
        allow(status(claim).state == 3);
        return enter(8, claim, outcome, outcome == 2 ? cap : 0);
    }

    public int settle(int claim) {
        claimAt(claim);
        int state = status(claim).state;
        allow(state == 0 || state == 2 || state == 3);
        return enter(9, claim, 0, 0);
    }

    public int pay(int claim, int amount) {
        claimAt(claim);
        argument(in(amount, 1, 999999));
        allow(status(claim).state == 2);
        allow(amount <= balance(claim));
        enter(10, claim, amount, 0);
        return balance(claim);
    }

    public int stay(int number, boolean isOn) {
        caseAt(number);
        allow(isStayed(number, today) != isOn);
        return enter(isOn ? 11 : 12, number, 0, 0);
    }

    public int defect(int entry) {
        Entry found = at(entry);
        state(in(found.kind, 1, 3));
        state(found.defectDay == NONE);
        found.defectDay = today;
        found.cureRule = rules[4];
        return cureDue(found);
    }

    public boolean cure(int entry) {
        Entry found = at(entry);
        state(found.defectDay != NONE && !found.isCured);
        int due = cureDue(found);
        state(due == NONE || today <= due);
        found.isCured = true;
        return true;
    }

    // ---- hearings

    private boolean doMeet(Hearing one, Hearing other) {
        if (one == other || one.day != other.day || one.slot != other.slot) {
            return false;
        }
        Case a = cases.get(one.number);
        Case b = cases.get(other.number);
        Case leaderOfA = a.leader == NONE ? a : cases.get(a.leader);
        Case leaderOfB = b.leader == NONE ? b : cases.get(b.leader);
        Set<Integer> common = new HashSet<>(a.parties.keySet());
        common.retainAll(b.parties.keySet());
        return leaderOfA.judge == leaderOfB.judge || !common.isEmpty();
    }

    private boolean meetsNone(Hearing one) {
        for (Hearing other : hearings) {
            if (doMeet(one, other)) {
                return false;
            }
        }
        return true;
    }

    public int hearing(int number, int day, int slot) {
        caseAt(number);
        range(in(slot, 0, 3));
        argument(in(day, today + 1, 990));
        Hearing made = new Hearing();
        made.number = number;
        made.day = day;
        made.slot = slot;
        state(!isFree(day) && meetsNone(made) && hearings.size() < 40);
        hearings.add(made);
        return hearings.size() - 1;
    }

    public int continueHearing(int hearing) {
        Hearing moved = hearingOf(hearing);
        state(moved.day > today);
        int oldDay = moved.day;
        int oldSlot = moved.slot;
        for (int time = 4 * (oldDay + 1); time < 4 * 1001; time++) {
            moved.day = time / 4;
            moved.slot = time % 4;
            if (!isFree(moved.day) && meetsNone(moved)) {
                return hearingAt(hearing);
            }
        }
        moved.day = oldDay;
        moved.slot = oldSlot;
        throw new IllegalStateException();
    }

    public int hearingAt(int hearing) {
        Hearing found = hearingOf(hearing);
        return 10 * found.day + found.slot;
    }

    // ---- juries

    public int strike(int number, int side, int juror) {
        Case struck = caseAt(number);
        side(side);
        range(in(juror, 0, 13));
        int strikes = struck.struck.size();
        state(strikes < 6 && strikes % 2 == side && !struck.struck.contains(juror));
        struck.struck.add(juror);
        return strikes + 1;
    }

    /** Who sits in the seats, and behind them the alternates that are left. */
    private static List<Integer> jury(Case held) {
        List<Integer> left = new ArrayList<>();
        for (int juror = 0; juror < 14; juror++) {
            if (!held.struck.contains(juror)) {
                left.add(juror);
            }
        }
        if (held.struck.size() < 6) {
            left.clear();
        }
        for (int gone : held.dismissed) {
            left.set(left.indexOf(gone), left.get(6));
            left.remove(6);
        }
        return left;
    }

    public int dismiss(int number, int juror) {
        Case held = caseAt(number);
        range(in(juror, 0, 13));
        List<Integer> jury = jury(held);
        state(jury.size() > 6 && in(jury.indexOf(juror), 0, 5));
        held.dismissed.add(juror);
        return jury.get(6);
    }

    public int seat(int number, int seat) {
        Case held = caseAt(number);
        range(in(seat, 0, 6));
        List<Integer> jury = jury(held);
        return seat < jury.size() ? jury.get(seat) : NONE;
    }

    // ---- exhibits

    public int exhibit(int number, int person) {
        caseAt(number);
        person(person);
        state(exhibits.size() < 12);
        Exhibit made = new Exhibit();
        made.holder = person;
        exhibits.add(made);
        return exhibits.size() - 1;
    }

    public boolean hand(int exhibit, int from, int to) {
        Exhibit handed = exhibitAt(exhibit);
        person(from);
        person(to);
        handed.isBroken |= handed.holder != from;
        handed.holder = to;
        return !handed.isBroken;
    }

    public void object(int exhibit, int side) {
        Exhibit shown = exhibitAt(exhibit);
        side(side);
        state(shown.hasObjected[side] == null);
        shown.hasObjected[side] = true;
    }

    public void sustain(int exhibit, int side, boolean isSustained) {
        Exhibit shown = exhibitAt(exhibit);
        side(side);
        state(shown.hasObjected[side] != null && shown.isSustained[side] == null);
        shown.isSustained[side] = isSustained;
    }

    public boolean isAdmitted(int exhibit) {
        Exhibit shown = exhibitAt(exhibit);
        boolean isAdmitted = !shown.isBroken;
        for (int side = 0; side < 2; side++) {
            if (shown.hasObjected[side] != null && (shown.isSustained[side] == null || shown.isSustained[side])) {
                isAdmitted = false;
            }
        }
        return isAdmitted;
    }

    // ---- seals

    private static boolean isSealed(Entry entry, int day) {
        Map<Integer, Boolean> last = new TreeMap<>();
        for (Turn turn : entry.seals) {
            last.put(turn.day, turn.isOn);
        }
        boolean isSealed = false;
        for (Map.Entry<Integer, Boolean> turn : last.entrySet()) {
            if (turn.getKey() <= day) {
                isSealed = turn.getValue();
            }
        }
        return isSealed;
    }

    public boolean seal(int entry, boolean isSealed) {
        Entry found = at(entry);
        boolean was = isSealed(found, today);
        found.seals.add(new Turn(today, isSealed));
        return was != isSealed;
    }

    public boolean maySee(int entry, int person, int day) {
        Entry found = at(entry);
        person(person);
        argument(in(day, 0, today));
        if (!isSealed(found, day)) {
            return found.day <= day;
        }
        int number = found.kind >= 11 ? found.about : claims.get(found.about).number;
        Party party = cases.get(number).parties.get(person);
        return party != null && party.since <= day;
    }

    // ---- classes

    public void certify(int claim) {
        Claim made = claimAt(claim);
        state(made.members == null && status(claim).state == 0);
        made.members = new HashSet<>();
        made.members.add(made.from);
    }

    public int member(int claim, int person, boolean isIn) {
        Claim found = claimAt(claim);
        person(person);
        state(found.members != null && status(claim).state == 0 && (isIn || person != found.from));
        if (isIn) {
            found.members.add(person);
        } else {
            found.members.remove(person);
        }
        return found.members.size();
    }

    public int share(int claim, int person) {
        Claim found = claimAt(claim);
        person(person);
        if (found.members == null || !found.members.contains(person)) {
            return 0;
        }
        return paid(claim) / found.members.size();
    }

    // ---- what is asked

    public int entries() {
        return docket.size();
    }

    public int entryAt(int entry, int part) {
        Entry found = at(entry);
        range(in(part, 0, 4));
        return new int[] {found.kind, found.day, found.about, found.part3, found.part4}[part];
    }

    public boolean counts(int entry) {
        return isCounting(at(entry));
    }

    public int stateOf(int claim) {
        claimAt(claim);
        return status(claim).state;
    }

    public int stateByDocket(int claim) {
        return stateOf(claim);
    }

    public int amountOf(int claim) {
        claimAt(claim);
        return status(claim).amount;
    }

    public int balance(int claim) {
        claimAt(claim);
        Status status = status(claim);
        if (status.state != 2) {
            return 0;
        }
        return owed(status.amount, latest(claim, 5).day, today) - paid(claim);
    }

    public int caseOf(int claim) {
        return claimAt(claim).number;
    }

    public boolean isAnswered(int claim) {
        claimAt(claim);
        return hasAnswer(claim);
    }
}
