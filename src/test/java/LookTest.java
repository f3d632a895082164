/** Promise 21 (look). */
public final class LookTest {
    private static final String TWO = "create = 0; create = 1";

    private LookTest() {
    }

    public static void main(String[] args) {
        Runs t = new Runs();
        states(t);
        pagesAndEntries(t);
        devices(t);
        wrongNumbers(t);
        changesNothing(t);
        t.finish();
    }

    private static void states(Runs t) {
        t.run("21: what 0", TWO,
                "look 0 0 0 = 1; look 0 4 0 = 0; look 0 5 0 = -1; look 0 -1 0 = -1; look 0 1 99 = 1; look 0 1 -1 = 1",
                "alloc 0 = 0; grant 0 1 0 0 = 0; map 1 0 0 false = 0; destroy 0 = 0; look 0 0 0 = 2");
        t.run("21: what 4", TWO,
                "look 4 0 0 = 0; alloc 0 = 0; alloc 0 = 1; look 4 0 -5 = 2; look 4 1 0 = 0; look 4 4 0 = 0; look 4 5 0 = -1",
                "look 4 -1 0 = -1; grant 0 1 0 0 = 0; map 1 0 0 false = 0; destroy 0 = 0; look 4 0 0 = 1");
    }

    private static void pagesAndEntries(Runs t) {
        t.run("21: what 1", TWO,
                "alloc 1 = 0; look 1 0 77 = 1; look 1 1 0 = -1; look 1 19 0 = -1; look 1 20 0 = -1; look 1 -1 0 = -1");
        t.run("21: what 2", TWO,
                "alloc 0 = 0; grant 0 1 0 0 = 0; grant 0 1 0 2 = 1; look 2 0 0 = 0; look 2 0 1 = 0; look 2 0 2 = -1",
                "map 1 0 0 false = 0; map 1 0 0 false = 1; look 2 0 0 = 2; look 2 1 0 = -1; look 2 0 -1 = -1",
                "look 2 0 6 = -1; look 2 5 0 = -1; look 2 -1 0 = -1; look 2 4 0 = -1");
        t.run("21: what 3", TWO,
                "alloc 0 = 0; alloc 0 = 1; grant 0 1 1 0 = 0; map 1 0 0 false = 0; look 3 1 0 = 1; look 3 1 1 = -1",
                "look 3 0 0 = -1; look 3 1 -1 = -1; look 3 1 5 = -1; look 3 5 0 = -1; look 3 -1 0 = -1; look 3 4 0 = -1");
    }

    private static void devices(Runs t) {
        t.run("21: what 5 and 6", TWO,
                "look 5 0 0 = -1; look 6 0 0 = -1; attach 0 1 = 0; look 5 0 0 = 0; look 6 0 9 = 0; submit 0 true 7 -2 = 0",
                "look 6 0 0 = 1; look 5 0 7 = 0; serve 0 = 0; look 5 0 7 = 4294967294; look 6 0 0 = 1; look 5 0 8 = -1",
                "look 5 0 -1 = -1; look 5 1 0 = -1; look 5 3 0 = -1; look 5 -1 0 = -1; look 6 1 0 = -1; look 6 3 0 = -1",
                "look 6 -1 0 = -1; reap 0 = 4294967294; look 6 0 0 = 0; unmap 1 0 = 0; look 6 0 0 = 0; look 5 0 7 = 4294967294",
                "destroy 0 = 0; look 6 0 0 = -1; look 5 0 7 = -1");
    }

    private static void wrongNumbers(Runs t) {
        GrantRing x = new GrantRing();
        x.create();
        x.create();
        x.attach(0, 1);
        int[] far = {Integer.MIN_VALUE, -1, 1000, Integer.MAX_VALUE};
        for (int n : far) {
            for (int what = 0; what < 7; what++) {
                t.due("21: look " + what + " " + n, x.look(what, n, 0), -1);
            }
            t.due("21: entry " + n, x.look(2, 0, n), -1);
            t.due("21: handle " + n, x.look(3, 1, n), -1);
            t.due("21: sector " + n, x.look(5, 0, n), -1);
            t.due("21: what " + n, x.look(n, 0, 0), -1);
        }
        t.due("21: what 7", x.look(7, 0, 0), -1);
    }

    private static void changesNothing(Runs t) {
        t.run("21: look leaves PENDING and counts alone", TWO, "attach 0 1 = 0; submit 0 true 1 2 = 0",
                "look 6 0 0 = 1; look 6 0 0 = 1; look 5 0 1 = 0; look 2 0 1 = 0; next 1 = 0; serve 0 = 0; reap 0 = 2");
    }
}
