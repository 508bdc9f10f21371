import java.util.ArrayList;
import java.util.List;
import java.util.Map;
import java.util.Set;

/**
 * A run of calls on a new object, a row each: "near(21) = OUTSIDE". A row without an answer is just called.
 * Behind each row with an answer fault() is looked at, too; behind a refusal or a FAULT, that nothing is changed.
 */
final class Run {
    private static final Set<String> NAME_FAULTS =
            Set.of("shop", "search", "sieve", "sheet", "put", "cell", "copy", "as");
    private static final Map<String, Long> REFUSALS =
            Map.of("UNKNOWN", -1L, "OUTSIDE", -2L, "STATE", -3L, "FULL", -4L, "LOST", Long.MIN_VALUE);
    private static final List<String> FAULTS = List.of("", "NULL", "CAST", "INDEX", "SIZE");
    private static final String SIZE_FAULT = "sheet(0, 0, -1)";

    private final Checks checks;
    private final String title;
    private final Asked asked = new Asked();
    private final List<String> calls = new ArrayList<>();

    Run(Checks checks, String title) {
        this.checks = checks;
        this.title = title;
    }

    void play(String rows) {
        for (String line : rows.lines().toList()) {
            String row = line.strip();
            int equals = row.indexOf(" = ");
            if (equals >= 0) {
                due(row.substring(0, equals).strip(), row.substring(equals + 3).strip());
            } else if (!row.isEmpty()) {
                asked.ask(row);
                calls.add(row);
            }
        }
    }

    private void due(String call, String answer) {
        boolean namesFaults = NAME_FAULTS.contains(Asked.nameOf(call));
        long faultBefore = asked.ask("fault()");
        checks.due(title + call, asked.ask(call), value(answer));
        long fault = namesFaults ? faultOf(answer) : faultBefore;
        checks.due(title + "fault() behind " + call, asked.ask("fault()"), fault);
        if (changesNothing(answer)) {
            nothingIsChanged(call, answer, namesFaults);
        }
        calls.add(call);
    }

    /** The same calls on two more objects, the refused one on one of them alone, behind another FAULT. */
    private void nothingIsChanged(String call, String answer, boolean namesFaults) {
        Asked with = again();
        with.ask(SIZE_FAULT);
        checks.due(title + call + " behind a FAULT", with.ask(call), value(answer));
        long fault = namesFaults ? faultOf(answer) : FAULTS.indexOf("SIZE");
        checks.due(title + "fault() behind a FAULT and " + call, with.ask("fault()"), fault);
        checks.same(title + call + " changes nothing", with.state(), again().state());
    }

    private Asked again() {
        Asked other = new Asked();
        for (String call : calls) {
            other.ask(call);
        }
        return other;
    }

    private static boolean changesNothing(String answer) {
        return REFUSALS.containsKey(answer) || faultOf(answer) != 0 || value(answer) <= -100;
    }

    /** LOST INDEX is the FAULT of a call that answers a long. */
    private static int faultOf(String answer) {
        return Math.max(0, FAULTS.indexOf(answer.replace("LOST ", "")));
    }

    private static long value(String answer) {
        if (answer.startsWith("LOST")) {
            return Long.MIN_VALUE;
        }
        if (answer.equals("NONE")) {
            return -9;
        }
        int fault = faultOf(answer);
        return fault != 0 ? -10 - fault : REFUSALS.containsKey(answer) ? REFUSALS.get(answer) : Long.parseLong(answer);
    }
}
