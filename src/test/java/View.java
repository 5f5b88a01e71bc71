import java.util.ArrayList;
import java.util.LinkedHashMap;
import java.util.List;
import java.util.Map;

/** All that the face tells of each case, claim, entry, hearing and exhibit of an object. */
final class View {
    private final Courtdocket court;
    private final Map<String, String> told = new LinkedHashMap<>();

    /** What is told of the thing of a number. */
    private interface Teller {
        String of(int number);
    }

    private View(Courtdocket court) {
        this.court = court;
        told.put("today", String.valueOf(court.today()));
        tell("case", 8, this::ofCase);
        tell("claim", 24, this::ofClaim);
        tell("entry", court.entries(), this::ofEntry);
        tell("hearing", 40, number -> String.valueOf(court.hearingAt(number)));
        tell("exhibit", 12, number -> String.valueOf(court.isAdmitted(number)));
    }

    /** The things, by name and number, of which something else is told behind a call than ahead of it. */
    static String changed(Courtdocket court, Runnable call) {
        Map<String, String> before = new View(court).told;
        call.run();
        List<String> names = new ArrayList<>();
        for (Map.Entry<String, String> now : new View(court).told.entrySet()) {
            if (!now.getValue().equals(before.get(now.getKey()))) {
                names.add(now.getKey());
            }
        }
        return String.join(", ", names);
    }

    private void tell(String name, int most, Teller teller) {
        try {
            for (int number = 0; number < most; number++) {
                told.put(name + " " + number, teller.of(number));
            }
        } catch (IndexOutOfBoundsException e) {
            // There is none of this number, and none behind it.
            return;
        }
    }

    private String ofCase(int number) {
        StringBuilder text = new StringBuilder();
        for (int seat = 0; seat <= 6; seat++) {
            text.append(court.seat(number, seat)).append(' ');
        }
        return text.toString();
    }

    private String ofClaim(int claim) {
        StringBuilder text = new StringBuilder();
        text.append(court.stateOf(claim)).append(' ').append(court.stateByDocket(claim)).append(' ');
        text.append(court.amountOf(claim)).append(' ').append(court.balance(claim)).append(' ');
        text.append(court.caseOf(claim)).append(' ').append(court.isAnswered(claim)).append(' ');
        for (int sort = 0; sort <= 2; sort += 2) {
            text.append(court.due(sort, claim)).append(' ').append(court.dueByDays(sort, claim)).append(' ');
        }
        for (int person = 0; person < 16; person++) {
            text.append(court.share(claim, person)).append(' ');
        }
        return text.toString();
    }

    private String ofEntry(int entry) {
        StringBuilder text = new StringBuilder();
        for (int part = 0; part < 5; part++) {
            text.append(court.entryAt(entry, part)).append(' ');
        }
        text.append(court.counts(entry)).append(' ');
        text.append(court.due(3, entry)).append(' ').append(court.dueByDays(3, entry)).append(' ');
        if (court.entryAt(entry, 0) == Courtdocket.MOTION) {
            text.append(court.due(1, entry)).append(' ').append(court.dueByDays(1, entry)).append(' ');
        }
        for (int person = 0; person < 16; person++) {
            for (int day = 0; day <= court.today(); day++) {
                text.append(court.maySee(entry, person, day) ? '+' : '-');
            }
        }
        return text.toString();
    }
}
