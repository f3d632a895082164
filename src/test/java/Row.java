import java.util.ArrayList;
import java.util.List;
import java.util.Set;

/**
 * A call with its arguments as numbers, and an answer. As text: "call arguments = answer". An argument may be
 * true, false, MIN or MAX (the least and the greatest int), an answer may be a code's name.
 */
record Row(String name, int[] arguments, long answer) {
    /** What serve and reap refuse with; their other codes tell how a request went, and change things. */
    private static final Set<String> RING_REFUSALS = Set.of("NO_DEVICE", "BROKEN", "IDLE", "BAD_RING");

    /** The rows of the texts; several may stand in a text, parted by ';'. */
    static List<Row> all(String... texts) {
        List<Row> found = new ArrayList<>();
        for (String text : texts) {
            for (String row : text.split("[;\n]")) {
                if (!row.isBlank()) {
                    found.add(of(row.strip()));
                }
            }
        }
        return found;
    }

    private static Row of(String text) {
        String[] sides = text.split("=");
        if (sides.length != 2) {
            throw new IllegalArgumentException("not a row: " + text);
        }
        String[] call = sides[0].strip().split("\\s+");
        if (call.length - 1 != Calls.argumentsOf(call[0])) {
            throw new IllegalArgumentException("number of arguments: " + text);
        }
        int[] arguments = new int[call.length - 1];
        for (int i = 0; i < arguments.length; i++) {
            arguments[i] = argument(call[i + 1]);
        }
        return new Row(call[0], arguments, answer(sides[1].strip()));
    }

    private static int argument(String text) {
        switch (text) {
            case "true": return 1;
            case "false": return 0;
            case "MIN": return Integer.MIN_VALUE;
            case "MAX": return Integer.MAX_VALUE;
            default: return Integer.parseInt(text);
        }
    }

    private static long answer(String text) {
        Integer code = Calls.CODES.get(text);
        return code == null ? Long.parseLong(text) : code;
    }

    long make(GrantRing x) {
        return Calls.make(x, name, arguments);
    }

    /** Whether the document has this call, with this answer, leave everything as it was. */
    boolean changesNothing() {
        if (name.equals("load") || name.equals("look")) {
            return true;
        }
        if (name.equals("serve") || name.equals("reap")) {
            return RING_REFUSALS.stream().anyMatch(code -> Calls.CODES.get(code) == answer);
        }
        return answer < 0;
    }

    String call() {
        StringBuilder text = new StringBuilder(name);
        for (int argument : arguments) {
            text.append(' ').append(argument);
        }
        return text.toString();
    }
}
