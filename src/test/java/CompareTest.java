import java.lang.reflect.InvocationTargetException;
import java.lang.reflect.Method;
import java.util.ArrayList;
import java.util.HashMap;
import java.util.List;
import java.util.Map;
import java.util.TreeMap;

/** Long runs of calls, made on a Courtdocket and on the Model: both must answer alike, and throw alike. */
public final class CompareTest {
    /**
     * How often a call is made, its name, and what its arguments are: c case, b case or none, p person, s side,
     * l claim, e entry, m motion, r rule, D days, d day, h hearing day, a amount, j judge, w way, S sort, T slot,
     * H hearing, J juror, x exhibit, t seat, o outcome, q part, z boolean, n number for the sort.
     */
    private static final String[] CALLS = {
        "14 pass D", "1 holiday d", "2 setRule r D z", "2 open j", "6 join c p s", "2 lead c b", "5 claim c p p a",
        "1 sever l", "8 serve l w", "9 answer l", "12 motion l", "9 respond m", "9 ruling m a", "9 judge l a",
        "5 judge l N", "5 vacate l", "6 appeal l", "7 decide l o a", "1 settle l", "5 pay l a", "2 stay c z",
        "5 defect e", "3 cure e", "4 extend S n D", "3 hearing c h T", "2 continueHearing H", "4 strike c s J",
        "1 dismiss c J", "1 exhibit c p", "1 hand x p p", "1 object x s", "1 sustain x s z", "2 seal e z",
        "1 certify l", "2 member l p z",
    };
    private static final String[] ASKED = {
        "today", "entries", "seat c t", "isAdmitted x", "maySee e p d", "share l p", "entryAt e q", "counts e",
        "stateOf l", "stateByDocket l", "amountOf l", "balance l", "caseOf l", "isAnswered l", "due S n",
        "dueByDays S n", "hearingAt H",
    };
    private static final String OTHERS = " strike dismiss exhibit hand object sustain hearing continueHearing ";
    private static final String[][] DRIVES = {
        {"serve", "answer", "judge", "judge", "pass"},
        {"serve", "motion", "respond", "ruling", "pass"},
        {"answer", "defect", "defect", "cure", "cure", "pass"},
        {"member", "member", "judge", "answer"},
        {"motion", "defect", "cure", "extend 1", "ruling", "respond"},
        {"stay", "pass", "lead", "sever", "extend 0", "vacate", "vacate"},
    };
    private static final int RUNS = 1200;
    private static final int ODD = 40;

    private final Map<String, Method> ofCourt = methods(Courtdocket.class);
    private final Map<String, Method> ofModel = methods(Model.class);
    private final Map<String, Integer> answered = new HashMap<>();
    private final List<String> done = new ArrayList<>();
    private Courtdocket court;
    private Model model;
    private long seed;
    private long calls;

    private CompareTest(long seed) {
        this.seed = seed;
    }

    public static void main(String[] args) throws IllegalAccessException {
        int runs = args.length > 0 ? Integer.parseInt(args[0]) : RUNS;
        long first = args.length > 1 ? Long.parseLong(args[1]) : 1;
        CompareTest test = new CompareTest(first);
        for (int run = 0; run < runs; run++) {
            test.run(run);
        }
        test.told();
    }

    private static Map<String, Method> methods(Class<?> type) {
        Map<String, Method> found = new HashMap<>();
        for (Method method : type.getMethods()) {
            found.put(method.getName(), method);
        }
        return found;
    }

    /** 0 to bound - 1, by a generator of its own, so that every run is the same. */
    private int pick(int bound) {
        seed = seed * 6364136223846793005L + 1442695040888963407L;
        return bound <= 0 ? 0 : (int) ((seed >>> 33) % bound);
    }

    private void run(int run) throws IllegalAccessException {
        court = new Courtdocket();
        model = new Model();
        done.clear();
        int[] weights = weights(run % 8);
        begin();
        while (done.size() < 500) {
            if (run % 4 != 1 && pick(4) > 0) {
                drive(pick(2));
            } else {
                make(chosen(weights));
            }
            make(ASKED[pick(ASKED.length)]);
            if (pick(4) == 0) {
                make("due S n");
                make("dueByDays S n");
            }
        }
    }

    /** Most runs call as often as told; one of four is about juries, exhibits and hearings; some hurry or tarry. */
    private static int[] weights(int sort) {
        int[] weights = new int[CALLS.length];
        for (int i = 0; i < CALLS.length; i++) {
            String name = CALLS[i].split(" ")[1];
            weights[i] = Integer.parseInt(CALLS[i].split(" ")[0]);
            if (sort % 4 == 1 && OTHERS.contains(" " + name + " ")) {
                weights[i] *= 15;
            }
            if (sort == 5 && name.equals("pass")) {
                weights[i] *= 20;
            }
            if (sort == 3 && name.equals("pass")) {
                weights[i] = 1;
            }
        }
        return weights;
    }

    /** Makes a call that may bring a claim on, by its state. */
    private void drive(int claim) throws IllegalAccessException {
        int state = court.stateOf(claim);
        String[] calls;
        if (state == Courtdocket.PENDING) {
            calls = DRIVES[pick(DRIVES.length)];
        } else if (state == Courtdocket.WON) {
            calls = new String[] {"appeal", "appeal", "appeal", "pay", "vacate", "extend 2", "pass"};
        } else if (state == Courtdocket.APPEALED) {
            calls = new String[] {"decide", "decide", "pass"};
        } else {
            calls = new String[] {"vacate", "pass", "sever"};
        }
        int motion = motion();
        switch (calls[pick(calls.length)]) {
            case "serve" -> same("serve", claim, pick(3));
            case "answer" -> same("answer", claim);
            case "motion" -> same("motion", claim);
            case "respond" -> same("respond", motion);
            case "ruling" -> same("ruling", motion, pick(3) == 0 ? amount(claim) : -pick(2));
            case "judge" -> same("judge", claim, pick(3) == 0 ? -1 : amount(claim));
            case "defect" -> same("defect", recent(false));
            case "cure" -> same("cure", recent(true));
            case "extend 0" -> same("extend", 0, claim, 1 + pick(9));
            case "extend 1" -> same("extend", 1, motion, 1 + pick(9));
            case "extend 2" -> same("extend", 2, claim, 1 + pick(9));
            case "member" -> same("member", claim, pick(5), pick(3) > 0);
            case "stay" -> same("stay", court.caseOf(claim), pick(2) == 0);
            case "lead" -> same("lead", court.caseOf(claim), pick(4) - 1);
            case "sever" -> make(pick(6) == 0 ? "sever l" : "today");
            case "appeal" -> same("appeal", claim);
            case "decide" -> same("decide", claim, pick(3), amount(claim));
            case "pay" -> pay(claim);
            case "vacate" -> same("vacate", claim);
            default -> same("pass", 1 + pick(pick(4) == 0 ? 20 : 3));
        }
    }

    private String chosen(int[] weights) {
        int sum = 0;
        for (int weight : weights) {
            sum += weight;
        }
        int left = pick(sum);
        int found = 0;
        while (left >= weights[found]) {
            left -= weights[found];
            found++;
        }
        return CALLS[found].split(" ", 2)[1];
    }

    private void begin() throws IllegalAccessException {
        for (int number = 0; number < 2; number++) {
            same("open", pick(3));
            for (int person = 0; person < 5; person++) {
                same("join", number, person, person % 2);
            }
        }
        for (int claim = 0; claim < 5; claim++) {
            int from = pick(2);
            same("claim", pick(2), from, 1 - from + 2 * pick(2), 1 + pick(claim < 1 ? 10 : 99999));
            if (pick(2) == 0) {
                same("certify", claim);
            }
        }
    }

    private void make(String call) throws IllegalAccessException {
        String[] words = call.split(" ");
        Object[] arguments = new Object[words.length - 1];
        int about = 0;
        for (int i = 0; i < arguments.length; i++) {
            char kind = words[i + 1].charAt(0);
            if (kind == 'z') {
                arguments[i] = pick(2) == 0;
            } else {
                int chosen = kind == 'n' ? number((Integer) arguments[i - 1]) : argument(kind, about);
                arguments[i] = chosen;
                about = i == 0 ? chosen : about;
            }
        }
        same(words[0], arguments);
    }

    private int number(int sort) {
        return argument(sort == 1 ? 'm' : sort == 3 ? 'e' : 'l', 0);
    }

    private static final int[] EDGES = {-1, -2, 0, 1, 2, 3, 4, 8, 14, 16, 24, 61, 160, 900, 1001, 100000, 1000000,
        Integer.MAX_VALUE, Integer.MIN_VALUE};

    private int argument(char kind, int about) {
        if (pick(ODD) == 0) {
            return EDGES[pick(EDGES.length)];
        }
        switch (kind) {
            case 'c':
                return pick(pick(3) == 0 ? 8 : 2);
            case 'b':
                return pick(5) - 1;
            case 'p':
                return pick(pick(3) == 0 ? 16 : 5);
            case 's':
                return pick(2);
            case 'l':
                return pick(pick(4) == 0 ? 24 : 5);
            case 'e':
                return Math.max(0, court.entries() - 1 - pick(pick(3) == 0 ? 160 : 12));
            case 'm':
                return motion();
            case 'r':
                return pick(5);
            case 'D':
                return 1 + pick(pick(3) == 0 ? 60 : 12);
            case 'd':
                return Math.max(0, court.today() - 5 + pick(pick(4) == 0 ? 60 : 12));
            case 'h':
                return court.today() + 1 + pick(6);
            case 'a':
                return amount(about);
            case 'N':
                return -1;
            case 'j':
            case 'w':
            case 'o':
                return pick(3);
            case 'S':
            case 'T':
                return pick(4);
            case 'H':
                return pick(pick(2) == 0 ? 40 : 8);
            case 'J':
                return pick(14);
            case 'x':
                return pick(pick(2) == 0 ? 12 : 4);
            case 't':
                return pick(7);
            case 'q':
                return pick(5);
            default:
                throw new IllegalArgumentException("no argument " + kind);
        }
    }

    private int motion() {
        for (int tries = 0; tries < 40; tries++) {
            int entry = Math.max(0, court.entries() - 1 - pick(tries < 20 ? 20 : 160));
            if (entry < court.entries() && court.entryAt(entry, 0) == Courtdocket.MOTION) {
                return entry;
            }
        }
        return pick(160);
    }

    private void pay(int claim) throws IllegalAccessException {
        if (pick(4) == 0) {
            int balance = court.balance(claim);
            same("pay", claim, pick(2) == 0 ? balance : 1 + balance / 3);
        }
        same("balance", claim);
        same("share", claim, pick(5));
    }

    /** A late ANSWER, MOTION or RESPONSE, with a defect or without. */
    private int recent(boolean hasDefect) {
        for (int entry = court.entries() - 1; entry >= 0; entry--) {
            int kind = court.entryAt(entry, 0);
            boolean canHaveOne = kind >= Courtdocket.ANSWER && kind <= Courtdocket.RESPONSE;
            if (canHaveOne && court.due(3, entry) >= 0 == hasDefect && pick(3) > 0) {
                return entry;
            }
        }
        return argument('e', 0);
    }

    /** An amount near that of the claim, or the claim of the motion, if the first argument is one. */
    private int amount(int about) {
        int around = 1 + pick(2000);
        if (about >= 0 && about < 24 && pick(2) == 0) {
            try {
                around = pick(2) == 0 ? court.balance(about) : court.amountOf(about);
            } catch (IndexOutOfBoundsException e) {
                around = 7;
            }
        }
        int[] near = {around, around, around - 1, around + 1, around / 2, around / 3, 0, -1};
        return near[pick(near.length)];
    }

    private void same(String name, Object... arguments) throws IllegalAccessException {
        calls++;
        StringBuilder told = new StringBuilder(name);
        for (Object argument : arguments) {
            told.append(' ').append(argument);
        }
        String due = outcome(model, ofModel.get(name), arguments);
        String got = outcome(court, ofCourt.get(name), arguments);
        done.add(told.append(" = ").append(got).toString());
        String kind = name + (due.endsWith("Exception") ? " " + due : "");
        answered.merge(kind, 1, Integer::sum);
        if (!got.equals(due)) {
            for (String call : done) {
                System.out.println(call);
            }
            System.out.println("due is " + due);
            System.exit(1);
        }
    }

    private static String outcome(Object on, Method method, Object[] arguments) throws IllegalAccessException {
        try {
            return String.valueOf(method.invoke(on, arguments));
        } catch (InvocationTargetException e) {
            return e.getCause().getClass().getSimpleName();
        }
    }

    /** Every call must have been answered, and have thrown each of its exceptions, in some run. */
    private void told() {
        int missing = 0;
        for (Method method : ofCourt.values()) {
            if (method.getDeclaringClass() != Courtdocket.class) {
                continue;
            }
            List<String> kinds = new ArrayList<>();
            kinds.add(method.getName());
            for (Class<?> type : method.getExceptionTypes()) {
                kinds.add(method.getName() + " " + type.getSimpleName());
            }
            for (String kind : kinds) {
                if (!answered.containsKey(kind)) {
                    System.out.println("never seen: " + kind);
                    missing++;
                }
            }
        }
        if (System.getProperty("counts") != null) {
            System.out.println(new TreeMap<>(answered));
        }
        System.out.println("CompareTest: " + calls + " calls answered alike");
        if (missing > 0) {
            System.exit(1);
        }
    }
}
