/** Promises 4 (alloc), 5 (free), 11 (store) and 12 (load). */
public final class PagesTest {
    private static final String TWO = "create = 0; create = 1";
    private static final String SIX =
            "alloc 0 = 0; alloc 0 = 1; alloc 0 = 2; alloc 0 = 3; alloc 0 = 4; alloc 0 = 5";

    private PagesTest() {
    }

    public static void main(String[] args) {
        Runs t = new Runs();
        alloc(t);
        free(t);
        store(t);
        load(t);
        t.finish();
    }

    private static void alloc(Runs t) {
        t.run("4: six pages, then FULL", TWO, SIX,
                "alloc 0 = FULL; look 4 0 0 = 6; alloc 1 = 6; free 0 2 = 0; alloc 1 = 2; alloc 0 = 7; alloc 0 = FULL");
        t.run("4: FULL when no page is free", TWO, "create = 2; create = 3", SIX,
                "alloc 1 = 6; alloc 1 = 7; alloc 1 = 8; alloc 1 = 9; alloc 1 = 10; alloc 1 = 11",
                "alloc 2 = 12; alloc 2 = 13; alloc 2 = 14; alloc 2 = 15; alloc 2 = 16; alloc 2 = 17",
                "alloc 3 = 18; alloc 3 = 19; alloc 3 = FULL; look 4 3 0 = 2; look 1 19 0 = 3",
                "free 2 15 = 0; alloc 3 = 15; alloc 3 = FULL");
        t.run("4: the words of a used page are 0 again", TWO,
                "alloc 0 = 0; store 0 0 0 1 = 0; store 0 0 3 -1 = 0; store 0 0 7 2 = 0; free 0 0 = 0; alloc 1 = 0",
                "load 1 0 0 = 0; load 1 0 3 = 0; load 1 0 7 = 0");
        t.run("4: wrong domains", "alloc 0 = BAD_DOMAIN; create = 0",
                "alloc -1 = BAD_DOMAIN; alloc 1 = BAD_DOMAIN; alloc 5 = BAD_DOMAIN; alloc 0 = 0");
    }

    private static void free(Runs t) {
        t.run("5: a page becomes free", TWO,
                "alloc 0 = 0; alloc 0 = 1; free 0 0 = 0; look 1 0 0 = -1; look 4 0 0 = 1; free 0 0 = NOT_YOURS",
                "load 0 0 0 = NOT_YOURS; alloc 1 = 0");
        t.run("5: not yours", TWO,
                "alloc 0 = 0; free 1 0 = NOT_YOURS; free 0 -1 = NOT_YOURS; free 0 20 = NOT_YOURS",
                "free 0 19 = NOT_YOURS; free 0 2147483647 = NOT_YOURS; look 1 0 0 = 0");
        t.run("5: a mapping does not make it yours", TWO,
                "alloc 0 = 0; grant 0 1 0 1 = 0; map 1 0 0 true = 0; free 1 0 = NOT_YOURS");
        t.run("5: BUSY while any entry has it", TWO,
                "alloc 0 = 0; alloc 0 = 1; grant 0 1 0 0 = 0; grant 0 4 0 1 = 1; free 0 0 = BUSY; end 0 0 = 0",
                "free 0 0 = BUSY; free 0 1 = 0; end 0 1 = 0; free 0 0 = 0");
        t.run("5: a TRANSFER entry has no page", TWO, "alloc 0 = 0; grant 0 1 0 2 = 0; free 0 0 = 0");
        t.run("5: wrong domains come first", "create = 0; free 1 0 = BAD_DOMAIN; free 5 -1 = BAD_DOMAIN",
                "free -1 0 = BAD_DOMAIN");
    }

    private static void store(Runs t) {
        t.run("11: words of an own page", TWO,
                "alloc 0 = 0; alloc 0 = 1; store 0 0 0 5 = 0; store 0 0 7 6 = 0; store 0 1 0 7 = 0",
                "load 0 0 0 = 5; load 0 0 7 = 6; load 0 1 0 = 7; load 0 0 1 = 0; store 0 0 0 8 = 0; load 0 0 0 = 8");
        t.run("11: only through a mapping for writing", TWO,
                "alloc 0 = 0; grant 0 1 0 1 = 0; store 1 0 1 9 = NOT_YOURS; map 1 0 0 false = 0",
                "store 1 0 1 9 = NOT_YOURS; load 0 0 1 = 0; map 1 0 0 true = 1; store 1 0 1 9 = 0; load 0 0 1 = 9",
                "unmap 1 1 = 0; store 1 0 1 8 = NOT_YOURS; load 0 0 1 = 9");
        t.run("11: a mapping of another page does not help", TWO,
                "alloc 0 = 0; alloc 0 = 1; grant 0 1 1 1 = 0; map 1 0 0 true = 0; store 1 0 0 1 = NOT_YOURS",
                "store 1 1 0 1 = 0");
        t.run("11: two for writing at once", TWO, "create = 2",
                "alloc 0 = 0; grant 0 1 0 1 = 0; grant 0 2 0 1 = 1; map 1 0 0 true = 0; map 2 0 1 true = 0",
                "store 1 0 4 1 = 0; load 2 0 4 = 1; store 2 0 4 2 = 0; load 1 0 4 = 2; load 0 0 4 = 2");
        t.run("11: wrong numbers", TWO,
                "alloc 0 = 0; store 0 -1 0 1 = BAD_ARGUMENT; store 0 20 0 1 = BAD_ARGUMENT",
                "store 0 0 -1 1 = BAD_ARGUMENT; store 0 0 8 1 = BAD_ARGUMENT; store 0 1 8 1 = BAD_ARGUMENT",
                "store 0 1 0 1 = NOT_YOURS; store 1 0 0 1 = NOT_YOURS; store 2 0 8 1 = BAD_DOMAIN",
                "store -1 20 0 1 = BAD_DOMAIN; store 5 0 0 1 = BAD_DOMAIN");
    }

    private static void load(Runs t) {
        t.run("12: without sign", TWO,
                "alloc 0 = 0; store 0 0 0 -1 = 0; store 0 0 1 -2147483648 = 0; store 0 0 2 2147483647 = 0",
                "load 0 0 0 = 4294967295; load 0 0 1 = 2147483648; load 0 0 2 = 2147483647; load 0 0 3 = 0");
        t.run("12: through a mapping, for writing or not", TWO, "create = 2",
                "alloc 0 = 0; store 0 0 6 3 = 0; grant 0 1 0 0 = 0; grant 0 2 0 1 = 1; load 1 0 6 = NOT_YOURS",
                "map 1 0 0 false = 0; map 2 0 1 true = 0; load 1 0 6 = 3; load 2 0 6 = 3",
                "unmap 1 0 = 0; load 1 0 6 = NOT_YOURS; load 2 0 6 = 3");
        t.run("12: wrong numbers", TWO,
                "alloc 0 = 0; load 0 -1 0 = BAD_ARGUMENT; load 0 20 0 = BAD_ARGUMENT; load 0 0 -1 = BAD_ARGUMENT",
                "load 0 0 8 = BAD_ARGUMENT; load 0 1 8 = BAD_ARGUMENT; load 0 1 7 = NOT_YOURS; load 1 0 0 = NOT_YOURS",
                "load 2 0 8 = BAD_DOMAIN; load -1 0 0 = BAD_DOMAIN; load 5 20 0 = BAD_DOMAIN");
    }
}
