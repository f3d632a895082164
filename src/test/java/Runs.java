import java.util.ArrayList;
import java.util.List;

/**
 * Runs of calls written as text, each on a new object. A row is "call arguments = answer"; an argument
 * may be true or false, an answer may be a code's name. Several rows may stand on a line, parted by ';'.
 */
final class Runs {
    private int wrong = 0;
    private int rows = 0;

    void run(String title, String... texts) {
        GrantRing x = new GrantRing();
        for (String row : rowsOf(texts)) {
            rows++;
            checkRow(x, title, row);
        }
    }

    void due(String what, long got, long want) {
        rows++;
        if (got != want) {
            wrong++;
            System.out.println(what + " is " + got + ", due is " + want);
        }
    }

    void finish() {
        System.out.println(rows + " answers looked at, " + wrong + " not as due");
        if (wrong != 0) {
            System.exit(1);
        }
    }

    private static List<String> rowsOf(String[] texts) {
        List<String> found = new ArrayList<>();
        for (String text : texts) {
            for (String row : text.split("[;\n]")) {
                if (!row.isBlank()) {
                    found.add(row.strip());
                }
            }
        }
        return found;
    }

    private void checkRow(GrantRing x, String title, String row) {
        String[] sides = row.split("=");
        if (sides.length != 2) {
            throw new IllegalArgumentException(title + ": not a row: " + row);
        }
        String[] call = sides[0].strip().split("\\s+");
        if (call.length - 1 != Calls.argumentsOf(call[0])) {
            throw new IllegalArgumentException(title + ": number of arguments: " + row);
        }
        int[] arguments = new int[call.length - 1];
        for (int i = 0; i < arguments.length; i++) {
            arguments[i] = argument(call[i + 1]);
        }
        long want = answer(sides[1].strip());
        long got = Calls.make(x, call[0], arguments);
        if (got != want) {
            wrong++;
            System.out.println(title + ": " + sides[0].strip() + " answered " + got + ", due is " + want);
        }
    }

    private static int argument(String text) {
        if (text.equals("true")) {
            return 1;
        }
        return text.equals("false") ? 0 : Integer.parseInt(text);
    }

    private static long answer(String text) {
        Integer code = Calls.CODES.get(text);
        return code == null ? Long.parseLong(text) : code;
    }
}
