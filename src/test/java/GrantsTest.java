/** Promises 6 (grant), 7 (end), 8 (map), 9 (unmap) and 10 (give). */
public final class GrantsTest {
    private static final String TWO = "create = 0; create = 1";
    private static final String THREE = TWO + "; create = 2";

    private GrantsTest() {
    }

    public static void main(String[] args) {
        Runs t = new Runs();
        grant(t);
        end(t);
        map(t);
        unmap(t);
        give(t);
        giveRefused(t);
        t.finish();
    }

    private static void grant(Runs t) {
        t.run("6: the least free entry, six of them", TWO, "alloc 0 = 0",
                "grant 0 1 0 0 = 0; grant 0 1 0 1 = 1; grant 0 1 0 2 = 2; grant 0 2 0 0 = 3; grant 0 3 0 0 = 4",
                "grant 0 4 0 0 = 5; grant 0 1 0 0 = FULL; grant 0 1 0 2 = FULL; end 0 4 = 0; end 0 2 = 0",
                "grant 0 1 0 0 = 2; grant 0 1 0 0 = 4; look 2 0 2 = 0");
        t.run("6: the target may be a domain that is NONE and becomes LIVE later", "create = 0; alloc 0 = 0",
                "store 0 0 0 4 = 0; grant 0 1 0 0 = 0; create = 1; map 1 0 0 false = 0; load 1 0 0 = 4");
        t.run("6: wrong arguments", TWO,
                "alloc 0 = 0; grant 0 0 0 0 = BAD_ARGUMENT; grant 0 -1 0 0 = BAD_ARGUMENT",
                "grant 0 5 0 0 = BAD_ARGUMENT; grant 0 1 0 3 = BAD_ARGUMENT; grant 0 1 0 -1 = BAD_ARGUMENT",
                "grant 0 0 0 2 = BAD_ARGUMENT; grant 0 5 99 2 = BAD_ARGUMENT; look 2 0 0 = -1");
        t.run("6: pages that are not d's", TWO,
                "alloc 0 = 0; grant 1 0 0 0 = NOT_YOURS; grant 1 0 0 1 = NOT_YOURS; grant 0 1 1 0 = NOT_YOURS",
                "grant 0 1 -1 1 = NOT_YOURS; grant 0 1 20 0 = NOT_YOURS; grant 0 1 0 0 = 0; map 1 0 0 false = 0",
                "grant 1 2 0 0 = NOT_YOURS");
        t.run("6: with TRANSFER the page is not looked at", TWO,
                "grant 0 1 -1 2 = 0; grant 0 1 20 2 = 1; grant 0 1 -2147483648 2 = 2; look 2 0 2 = 0");
        t.run("6: the order of the codes", TWO, "alloc 0 = 0",
                "grant 0 1 0 0 = 0; grant 0 1 0 0 = 1; grant 0 1 0 0 = 2; grant 0 1 0 0 = 3; grant 0 1 0 0 = 4",
                "grant 0 1 0 0 = 5; grant 0 1 9 0 = NOT_YOURS; grant 0 0 9 0 = BAD_ARGUMENT",
                "grant 2 2 9 7 = BAD_DOMAIN; grant -1 1 0 0 = BAD_DOMAIN; grant 5 1 0 0 = BAD_DOMAIN");
    }

    private static void end(Runs t) {
        t.run("7: an entry becomes free", TWO,
                "alloc 0 = 0; grant 0 1 0 0 = 0; grant 0 1 0 2 = 1; end 0 0 = 0; look 2 0 0 = -1; end 0 0 = BAD_REF",
                "map 1 0 0 false = BAD_REF; end 0 1 = 0; end 0 1 = BAD_REF; grant 0 1 0 0 = 0");
        t.run("7: BUSY until the last MAPPING is gone", TWO,
                "alloc 0 = 0; grant 0 1 0 0 = 0; map 1 0 0 false = 0; map 1 0 0 false = 1; end 0 0 = BUSY",
                "unmap 1 0 = 0; end 0 0 = BUSY; unmap 1 1 = 0; end 0 0 = 0");
        t.run("7: wrong numbers", TWO,
                "end 0 0 = BAD_REF; end 0 -1 = BAD_REF; end 0 6 = BAD_REF; end 0 2147483647 = BAD_REF",
                "end 2 0 = BAD_DOMAIN; end -1 0 = BAD_DOMAIN; end 5 9 = BAD_DOMAIN");
    }

    private static void map(Runs t) {
        t.run("8: the least free handle, five of them", TWO, "alloc 0 = 0; alloc 0 = 1",
                "grant 0 1 0 0 = 0; grant 0 1 1 1 = 1; map 1 0 0 false = 0; map 1 0 1 true = 1; map 1 0 1 false = 2",
                "map 1 0 0 false = 3; map 1 0 0 false = 4; map 1 0 0 false = FULL; look 3 1 1 = 1; look 3 1 4 = 0",
                "look 2 0 0 = 3; look 2 0 1 = 2; unmap 1 3 = 0; unmap 1 0 = 0; map 1 0 1 true = 0; look 3 1 0 = 1",
                "look 2 0 1 = 3; map 1 0 0 false = 3");
        t.run("8: READ_ONLY", TWO, "alloc 0 = 0; grant 0 1 0 0 = 0; map 1 0 0 true = READ_ONLY; look 2 0 0 = 0",
                "look 3 1 0 = -1; map 1 0 0 false = 0; map 1 0 0 true = READ_ONLY");
        t.run("8: READ_ONLY comes before FULL", TWO, "alloc 0 = 0; grant 0 1 0 0 = 0; map 1 0 0 false = 0",
                "map 1 0 0 false = 1; map 1 0 0 false = 2; map 1 0 0 false = 3; map 1 0 0 false = 4",
                "map 1 0 0 true = READ_ONLY; map 1 0 0 false = FULL; map 1 0 1 false = BAD_REF");
        t.run("8: entries that can not be mapped", THREE,
                "alloc 0 = 0; grant 0 1 0 0 = 0; grant 0 1 0 2 = 1; map 2 0 0 false = BAD_REF; map 2 0 0 true = BAD_REF",
                "map 1 0 1 false = BAD_REF; map 1 0 1 true = BAD_REF; map 1 0 2 false = BAD_REF",
                "map 1 0 -1 false = BAD_REF; map 1 0 6 false = BAD_REF; map 0 0 0 false = BAD_REF");
        t.run("8: wrong domains", TWO,
                "alloc 0 = 0; grant 0 1 0 0 = 0; map 2 0 0 false = BAD_DOMAIN; map 1 2 0 false = BAD_DOMAIN",
                "map -1 0 0 false = BAD_DOMAIN; map 1 -1 0 false = BAD_DOMAIN; map 5 0 0 false = BAD_DOMAIN",
                "map 1 5 9 true = BAD_DOMAIN; look 2 0 0 = 0");
    }

    private static void unmap(Runs t) {
        t.run("9: a handle becomes free", TWO,
                "alloc 0 = 0; grant 0 1 0 0 = 0; map 1 0 0 false = 0; map 1 0 0 false = 1; unmap 1 0 = 0",
                "look 3 1 0 = -1; look 3 1 1 = 0; look 2 0 0 = 1; unmap 1 0 = BAD_REF; load 1 0 0 = 0",
                "unmap 1 1 = 0; load 1 0 0 = NOT_YOURS; look 2 0 0 = 0; look 0 0 0 = 1; look 1 0 0 = 0");
        t.run("9: wrong numbers", TWO,
                "unmap 1 0 = BAD_REF; unmap 1 -1 = BAD_REF; unmap 1 5 = BAD_REF; unmap 1 2147483647 = BAD_REF",
                "unmap 2 0 = BAD_DOMAIN; unmap -1 0 = BAD_DOMAIN; unmap 5 9 = BAD_DOMAIN");
        t.run("9: with RELEASE", TWO,
                "alloc 0 = 0; grant 0 1 0 0 = 0; map 1 0 0 false = 0; destroy 0 = 0; look 0 0 0 = 2; unmap 1 0 = 0",
                "look 0 0 0 = 0; look 1 0 0 = -1; look 2 0 0 = -1; unmap 1 0 = BAD_REF");
    }

    private static void give(Runs t) {
        t.run("10: the page goes over with its words, the entry becomes free", TWO,
                "alloc 0 = 0; store 0 0 2 11 = 0; grant 1 0 0 2 = 0; look 2 1 0 = 0; give 0 0 1 0 = 0",
                "look 1 0 0 = 1; look 4 0 0 = 0; look 4 1 0 = 1; look 2 1 0 = -1; load 1 0 2 = 11",
                "load 0 0 2 = NOT_YOURS; store 0 0 2 1 = NOT_YOURS; give 0 0 1 0 = NOT_YOURS; free 1 0 = 0");
        t.run("10: an entry serves for one page", TWO,
                "alloc 0 = 0; alloc 0 = 1; grant 1 0 0 2 = 0; give 0 0 1 0 = 0; give 0 1 1 0 = BAD_REF",
                "look 1 1 0 = 0");
        t.run("10: a giver that is full may give, a taker with five may take", TWO,
                "alloc 0 = 0; alloc 0 = 1; alloc 0 = 2; alloc 0 = 3; alloc 0 = 4; alloc 0 = 5; alloc 1 = 6",
                "alloc 1 = 7; alloc 1 = 8; alloc 1 = 9; alloc 1 = 10; grant 1 0 0 2 = 0; grant 1 0 0 2 = 1",
                "give 0 3 1 1 = 0; look 4 1 0 = 6; give 0 4 1 0 = FULL; look 2 1 0 = 0; look 1 4 0 = 0");
    }

    private static void giveRefused(Runs t) {
        t.run("10: not yours", TWO,
                "alloc 0 = 0; grant 0 1 0 2 = 0; give 1 0 0 0 = NOT_YOURS; give 1 -1 0 0 = NOT_YOURS",
                "give 1 20 0 0 = NOT_YOURS; give 1 5 0 0 = NOT_YOURS");
        t.run("10: BUSY comes before BAD_REF", TWO,
                "alloc 0 = 0; grant 0 1 0 0 = 0; give 0 0 1 0 = BUSY; grant 1 0 0 2 = 0; give 0 0 1 0 = BUSY",
                "end 0 0 = 0; give 0 0 1 1 = BAD_REF; give 0 0 1 0 = 0");
        t.run("10: wrong entries", THREE,
                "alloc 0 = 0; alloc 1 = 1; grant 1 2 0 2 = 0; grant 1 0 1 0 = 1; grant 1 0 1 1 = 2; grant 1 0 0 2 = 3",
                "give 0 0 1 0 = BAD_REF; give 0 0 1 1 = BAD_REF; give 0 0 1 2 = BAD_REF; give 0 0 1 4 = BAD_REF",
                "give 0 0 1 -1 = BAD_REF; give 0 0 1 6 = BAD_REF; give 0 0 0 0 = BAD_REF; give 0 0 1 3 = 0");
        t.run("10: BAD_REF comes before FULL", TWO,
                "alloc 0 = 0; alloc 1 = 1; alloc 1 = 2; alloc 1 = 3; alloc 1 = 4; alloc 1 = 5; alloc 1 = 6",
                "give 0 0 1 0 = BAD_REF; grant 1 0 0 2 = 0; give 0 0 1 0 = FULL; free 1 6 = 0; give 0 0 1 0 = 0");
        t.run("10: wrong domains", TWO,
                "alloc 0 = 0; grant 1 0 0 2 = 0; give 2 0 1 0 = BAD_DOMAIN; give 0 0 2 0 = BAD_DOMAIN",
                "give -1 0 1 0 = BAD_DOMAIN; give 0 0 5 0 = BAD_DOMAIN; give 0 99 -1 0 = BAD_DOMAIN; look 1 0 0 = 0");
    }
}
