import java.lang.reflect.Method;
import java.util.ArrayList;
import java.util.Arrays;
import java.util.HashMap;
import java.util.List;
import java.util.Map;
import java.util.Set;
import java.util.regex.Matcher;
import java.util.regex.Pattern;

/**
 * A sentence of the document that names a boundary case, and a run of calls on a new object that shows it. A row of a
 * run is one of these; several may stand in one line, with | between them:
 * <pre>
 *   loops(1) = 12             a call and the answer that is due, as a number or by its name in the document
 *   text r6;p1i = 1           a TEXT is written on SHEET 0 as bytes, and taken by piece
 *   row 1 2: 0 1 4            SHEET 1 gets a row of LANE 2 with these cells
 * </pre>
 * Of every run two things more are asked, that the document says of all calls: fault() tells the FAULT of the latest
 * call that names one, and calls that were refused, came to a FAULT or only ask have changed nothing. No object is
 * used for more than 512 calls.
 */
final class Edge {
    private static final int MOST_CALLS = 512;
    private static final Pattern CALL = Pattern.compile("(\\w+)\\(([^)]*)\\) = (\\S+)(?: (\\w+))?");
    private static final Pattern TEXT = Pattern.compile("text (\\S*) = (\\S+)");
    private static final Pattern ROW = Pattern.compile("row (\\d) (\\d):(.*)");
    private static final Set<String> NAME_FAULTS = Set.of("piece", "puton", "day", "sheet", "put", "cell", "copy", "as");
    private static final Set<String> CHANGE = Set.of("piece", "spun", "puton", "ravel", "reading", "back", "sheet", "lose", "put", "copy",
        "tell", "tug");
    private static final Map<String, Long> NAMED = Map.ofEntries(
        Map.entry("UNKNOWN", -1L), Map.entry("OUTSIDE", -2L), Map.entry("STATE", -3L), Map.entry("FULL", -4L), Map.entry("NONE", -9L),
        Map.entry("NULL", -11L), Map.entry("CAST", -12L), Map.entry("INDEX", -13L), Map.entry("SIZE", -14L),
        Map.entry("LOST", Long.MIN_VALUE), Map.entry("MIN", (long) Integer.MIN_VALUE), Map.entry("MAX", (long) Integer.MAX_VALUE));
    private static final Map<String, Method> METHODS = methods();
    private static final List<Call> ASKED = allThatCanBeAsked();

    /** One call; fault is what fault() is to tell behind it, if it names FAULTS. */
    private static final class Call {
        final String name;
        final int[] numbers;
        final long want;
        final int fault;

        Call(String name, int[] numbers, long want, int fault) {
            this.name = name;
            this.numbers = numbers;
            this.want = want;
            this.fault = fault;
        }

        boolean changes() {
            boolean isPiece = name.equals("piece") || name.equals("puton");
            return CHANGE.contains(name) && (isPiece ? want > 0 : want >= 0);
        }

        @Override
        public String toString() {
            String all = Arrays.toString(numbers);
            return name + "(" + all.substring(1, all.length() - 1) + ")";
        }
    }

    private Edge() {
    }

    static void shows(String sentence, String rows) {
        List<Call> calls = new ArrayList<>();
        for (String row : rows.split("\n|\\|")) {
            if (!row.isBlank()) {
                read(row.strip(), calls);
            }
        }
        Due.holds(sentence + ": has few enough calls", calls.size() <= MOST_CALLS / 3);
        LoopRounds x = new LoopRounds();
        for (int k = 0; k < calls.size(); k++) {
            Call call = calls.get(k);
            Due.is(sentence + ": call " + k + ", " + call, answer(x, call), call.want);
        }
        faultsAreTold(sentence, calls, false);
        faultsAreTold(sentence, calls, true);
        nothingElseChanged(sentence, calls);
    }

    /** Once as the calls are, and once with a FAULT ahead of each, that must not be left standing by those that name one. */
    private static void faultsAreTold(String sentence, List<Call> calls, boolean raised) {
        LoopRounds x = new LoopRounds();
        int fault = 0;
        for (int k = 0; k < calls.size(); k++) {
            Call call = calls.get(k);
            if (raised) {
                fault = -10 - x.sheet(0, 0, -1);
            }
            answer(x, call);
            fault = NAME_FAULTS.contains(call.name) ? call.fault : fault;
            Due.is(sentence + ": fault() behind call " + k + ", " + call, x.fault(), fault);
        }
    }

    /** The run, and the run without the calls that change nothing, must answer alike to all that can be asked. */
    private static void nothingElseChanged(String sentence, List<Call> calls) {
        int step = MOST_CALLS - calls.size();
        for (int from = 0; from < ASKED.size(); from += step) {
            LoopRounds all = new LoopRounds();
            LoopRounds those = new LoopRounds();
            for (Call call : calls) {
                answer(all, call);
                if (call.changes()) {
                    answer(those, call);
                }
            }
            for (Call asked : ASKED.subList(from, Math.min(from + step, ASKED.size()))) {
                long got = answer(all, asked);
                long due = answer(those, asked);
                if (got != due) {
                    Due.is(sentence + ": at its end, against a run of what changes alone, " + asked, got, due);
                    return;
                }
            }
        }
        Due.holds(sentence + ": nothing else is changed", true);
    }

    private static void read(String row, List<Call> calls) {
        Matcher text = TEXT.matcher(row);
        Matcher cells = ROW.matcher(row);
        Matcher call = CALL.matcher(row);
        if (text.matches()) {
            int[] codes = text.group(1).chars().toArray();
            fill(0, 0, codes, calls);
            add("piece", new int[] {0, 0, 0, codes.length}, number(text.group(2)), null, calls);
        } else if (cells.matches()) {
            fill((int) number(cells.group(1)), (int) number(cells.group(2)), numbers(cells.group(3)), calls);
        } else if (call.matches() && METHODS.containsKey(call.group(1))) {
            add(call.group(1), numbers(call.group(2).replace(',', ' ')), number(call.group(3)), call.group(4), calls);
        } else {
            Due.holds("a row that can be read: " + row, false);
        }
    }

    private static void fill(int sheet, int lane, int[] cells, List<Call> calls) {
        add("sheet", new int[] {sheet, lane, cells.length}, 1, null, calls);
        for (int i = 0; i < cells.length; i++) {
            add("put", new int[] {sheet, i, cells[i]}, 1, null, calls);
        }
    }

    /** A FAULT is told by the answer, but of cell: behind LOST by its name. */
    private static void add(String name, int[] numbers, long want, String fault, List<Call> calls) {
        boolean isFault = want <= -11 && want >= -14 && !name.equals("cell");
        long told = fault != null ? -10 - number(fault) : isFault ? -10 - want : 0;
        calls.add(new Call(name, numbers, want, (int) told));
    }

    private static int[] numbers(String row) {
        String bare = row.strip();
        return bare.isEmpty() ? new int[0] : Arrays.stream(bare.split("\\s+")).mapToInt(told -> (int) number(told)).toArray();
    }

    private static long number(String told) {
        return NAMED.containsKey(told) ? NAMED.get(told) : Long.parseLong(told);
    }

    private static long answer(LoopRounds x, Call call) {
        Object[] values = new Object[call.numbers.length];
        for (int k = 0; k < values.length; k++) {
            values[k] = call.numbers[k];
        }
        try {
            return ((Number) METHODS.get(call.name).invoke(x, values)).longValue();
        } catch (ReflectiveOperationException | IllegalArgumentException thrown) {
            Due.holds(call + " ends without " + thrown + " " + thrown.getCause(), false);
            return Long.MAX_VALUE;
        }
    }

    private static Map<String, Method> methods() {
        Map<String, Method> all = new HashMap<>();
        for (Method method : LoopRounds.class.getMethods()) {
            if (method.getDeclaringClass() == LoopRounds.class) {
                all.put(method.getName(), method);
            }
        }
        return all;
    }

    private static List<Call> allThatCanBeAsked() {
        List<Call> all = new ArrayList<>();
        ask(all, "trace");
        ask(all, "rings");
        for (int what = 0; what < 4; what++) {
            ask(all, "many", what);
        }
        for (int r = 0; r <= 6; r++) {
            ask(all, "loops", r);
            ask(all, "bare", r);
            ask(all, "kinds", r);
            for (int what = 0; what < 9; what++) {
                ask(all, "ofRound", r, what);
            }
            for (int i = 0; i < 5; i++) {
                ask(all, "sign", r, i);
                ask(all, "signings", r, i);
            }
            for (int k = 0; k < 60; k++) {
                for (int what = 0; what < 5; what++) {
                    ask(all, "loop", r, k, what);
                }
            }
        }
        for (int v = 1; v <= 60; v++) {
            ask(all, "fewest", v, -1);
            ask(all, "fewest", v, 0);
            ask(all, "ways", 2, v);
        }
        for (int k = 0; k < 8; k++) {
            ask(all, "odds", k, 0);
            ask(all, "odds", k, 1);
        }
        for (int k = 0; k < 4; k++) {
            for (int lane = 0; lane < 3; lane++) {
                for (int i = 0; i < 60; i++) {
                    ask(all, "cell", k, i, lane);
                }
            }
        }
        for (int k = 0; k < 4; k++) {
            ask(all, "lose", k);
        }
        return all;
    }

    private static void ask(List<Call> all, String name, int... numbers) {
        all.add(new Call(name, numbers, 0, 0));
    }
}
