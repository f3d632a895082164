import java.util.List;

/**
 * Runs of calls written as rows (see Row), each run on a new object. Every answer is looked at; and where the
 * document says that a call changes nothing, as every refused call, that is sounded out, too.
 */
final class Runs {
    private int wrong = 0;
    private int rows = 0;
    private int sounded = 0;

    void run(String title, String... texts) {
        GrantRing x = new GrantRing();
        List<Row> run = Row.all(texts);
        for (int i = 0; i < run.size(); i++) {
            Row row = run.get(i);
            long got = row.make(x);
            due(title + ": " + row.call(), got, row.answer());
            if (got == row.answer() && row.changesNothing()) {
                expectUntouched(title, run.subList(0, i), row);
            }
        }
    }

    /** For each number just outside a range, and for the ends of int: the last row with it in the place of #. */
    void outside(String title, int below, int above, String setup, String row) {
        for (int n : new int[] {below, above, Integer.MIN_VALUE, Integer.MAX_VALUE}) {
            run(title, setup, row.replace("#", Integer.toString(n)));
        }
    }

    /** For each number that is no LIVE domain's in the world FADING: BAD_DOMAIN for the call with it in place of #. */
    void notLive(String title, String setup, String call) {
        outside(title, -1, 5, Worlds.FADING + ";" + setup, call + " = BAD_DOMAIN");
        run(title + ", DYING", Worlds.FADING, setup, call.replace("#", "3") + " = BAD_DOMAIN");
        run(title + ", NONE", Worlds.FADING, setup, call.replace("#", "4") + " = BAD_DOMAIN");
    }

    /** Both runs must leave the same state behind. */
    void same(String title, String run, String otherRun) {
        expectNoDifference(title, Sounding.difference(checked(title, run), checked(title, otherRun)));
    }

    /** The last row must change something that can be seen; or a sounding of refused calls would be worth little. */
    void seen(String title, String setup, String row) {
        List<Row> before = checked(title, setup);
        List<Row> after = checked(title, setup + ";" + row);
        rows++;
        if (Sounding.difference(before, after) == null) {
            wrong++;
            System.out.println(title + ": " + row + " was not seen to change anything");
        }
    }

    void due(String what, long got, long want) {
        rows++;
        if (got != want) {
            wrong++;
            System.out.println(what + " answered " + got + ", due is " + want);
        }
    }

    void finish() {
        System.out.println(rows + " answers looked at, " + sounded + " states sounded, " + wrong + " not as due");
        if (wrong != 0) {
            System.exit(1);
        }
    }

    private List<Row> checked(String title, String run) {
        run(title, run);
        return Row.all(run);
    }

    private void expectUntouched(String title, List<Row> before, Row call) {
        String found = Sounding.difference(before, Sounding.with(before, call));
        expectNoDifference(title + ": " + call.call() + " changed something", found);
    }

    private void expectNoDifference(String title, String found) {
        sounded++;
        if (found != null) {
            wrong++;
            System.out.println(title + ": " + found);
        }
    }
}
