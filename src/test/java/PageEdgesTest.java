/** Promises 4, 5, 11 and 12, sentence by sentence: the edges. */
public final class PageEdgesTest {
    /** 0 owns pages 0 (in no entry), 1 (READ for 1, entry 0) and 2 (WRITE for 1, entry 1); 1 owns page 3. */
    private static final String SHARED = Worlds.TWO + ";" + Worlds.allocs(0, 0, 3)
            + "; alloc 1 = 3; grant 0 1 1 0 = 0; grant 0 1 2 1 = 1";
    private static final String EVERY_WORD = "; store 0 0 0 10 = 0; store 0 0 1 11 = 0; store 0 0 2 12 = 0"
            + "; store 0 0 3 13 = 0; store 0 0 4 14 = 0; store 0 0 5 15 = 0; store 0 0 6 16 = 0; store 0 0 7 17 = 0";

    private PageEdgesTest() {
    }

    public static void main(String[] args) {
        Runs t = new Runs();
        alloc(t);
        allocRefused(t);
        free(t);
        freeRefused(t);
        store(t);
        storeRefused(t);
        load(t);
        loadRefused(t);
        t.finish();
    }

    private static void alloc(Runs t) {
        t.run("4: \"The least free page becomes d's\": the first, one between, the last", Worlds.NO_PAGE_LEFT,
                "free 3 19 = 0; free 1 7 = 0; free 0 0 = 0; alloc 4 = 0; look 1 0 0 = 4; alloc 4 = 7; look 1 7 0 = 4",
                "alloc 4 = 19; look 1 19 0 = 4; look 4 4 0 = 3");
        t.run("4: \"all its words 0\", all eight", Worlds.TWO, "alloc 0 = 0", EVERY_WORD, "free 0 0 = 0; alloc 0 = 0",
                "load 0 0 0 = 0; load 0 0 1 = 0; load 0 0 2 = 0; load 0 0 3 = 0; load 0 0 4 = 0; load 0 0 5 = 0",
                "load 0 0 6 = 0; load 0 0 7 = 0");
        t.run("4: \"all its words 0\", after RELEASE", Worlds.TWO, "alloc 0 = 0; grant 0 1 0 1 = 0",
                "map 1 0 0 true = 0; store 1 0 7 9 = 0; destroy 0 = 0; store 1 0 0 8 = 0; unmap 1 0 = 0; alloc 1 = 0",
                "load 1 0 0 = 0; load 1 0 7 = 0");
        t.run("4: the words of other pages stay", Worlds.TWO, "alloc 0 = 0", EVERY_WORD, "alloc 0 = 1",
                "load 0 0 0 = 10; load 0 0 7 = 17");
        t.run("4: the first and the last domain", Worlds.FIVE, "alloc 0 = 0; alloc 4 = 1; look 1 0 0 = 0",
                "look 1 1 0 = 4");
    }

    private static void allocRefused(Runs t) {
        t.notLive("4: \"BAD_DOMAIN when d is not LIVE.\"", "", "alloc #");
        t.run("4: \"FULL when d owns 6 pages\", not when it owns 5", Worlds.TWO, Worlds.allocs(0, 0, 5),
                "look 4 0 0 = 5; alloc 0 = 5; alloc 0 = FULL; free 0 5 = 0; alloc 0 = 5; alloc 0 = FULL",
                "alloc 1 = 6");
        t.run("4: 6 pages, one of them by give", Worlds.TWO, Worlds.allocs(0, 0, 5), "alloc 1 = 5; grant 0 1 0 2 = 0",
                "give 1 5 0 0 = 0; alloc 0 = FULL; alloc 1 = 6");
        t.run("4: 6 pages, one of them by attach", Worlds.RING, Worlds.allocs(0, 1, 5), "alloc 0 = FULL");
        t.run("4: \"or no page is free\", not when one is", Worlds.ONE_PAGE_LEFT, "alloc 4 = 19; alloc 4 = FULL",
                "alloc 3 = FULL; free 4 19 = 0; alloc 3 = 19");
        t.run("4: pages of a DYING domain are not free", Worlds.FADING_WITH_SIX, "alloc 1 = 6; create = 3",
                "create = 4", Worlds.allocs(1, 7, 5), Worlds.allocs(2, 12, 6), Worlds.allocs(3, 18, 2),
                "alloc 3 = FULL; unmap 1 2 = 0; alloc 3 = 2");
        t.run("4: BAD_DOMAIN before FULL: DYING with 6 pages", Worlds.FADING_WITH_SIX, "alloc 0 = BAD_DOMAIN");
        t.run("4: BAD_DOMAIN before FULL: NONE and no page free", Worlds.NO_PAGE_LEFT, "destroy 4 = 0",
                "alloc 4 = BAD_DOMAIN; alloc 5 = BAD_DOMAIN; alloc -1 = BAD_DOMAIN");
    }

    private static void free(Runs t) {
        t.run("5: \"Page p, which is d's, becomes free\": the first and the last", Worlds.NO_PAGE_LEFT,
                "free 0 0 = 0; look 1 0 0 = -1; free 3 19 = 0; look 1 19 0 = -1; look 4 0 0 = 5; look 4 3 0 = 1",
                "alloc 4 = 0; alloc 4 = 19");
        t.run("5: the ring page, when its entry is free again", Worlds.RING, "free 0 0 = BUSY; unmap 1 0 = 0",
                "free 0 0 = BUSY; end 0 0 = 0; free 0 0 = 0");
    }

    private static void freeRefused(Runs t) {
        t.notLive("5: \"BAD_DOMAIN when d is not LIVE.\"", "alloc 0 = 1", "free # 1");
        t.outside("5: \"NOT_YOURS when there is no such page\"", -1, 20, SHARED, "free 0 # = NOT_YOURS");
        t.run("5: \"or d does not own it\": free, another's, another's by mapping, a DYING one's", Worlds.FADING,
                "alloc 0 = 1; grant 0 1 1 1 = 0; map 1 0 0 true = 0; free 0 2 = NOT_YOURS; free 0 19 = NOT_YOURS",
                "free 2 1 = NOT_YOURS; free 1 1 = NOT_YOURS; free 2 0 = NOT_YOURS; free 0 0 = NOT_YOURS");
        t.run("5: \"NOT_YOURS\" for a page freed just now", Worlds.TWO, "alloc 0 = 0; free 0 0 = 0",
                "free 0 0 = NOT_YOURS");
        t.run("5: \"NOT_YOURS\" for a page given away", Worlds.TWO, "alloc 0 = 0; grant 1 0 0 2 = 0",
                "give 0 0 1 0 = 0; free 0 0 = NOT_YOURS; free 1 0 = 0");
        t.run("5: \"BUSY when an entry of d has it.\": READ, WRITE, MAPPED or not", SHARED, "free 0 1 = BUSY",
                "free 0 2 = BUSY; map 1 0 0 false = 0; free 0 1 = BUSY; unmap 1 0 = 0; free 0 1 = BUSY; end 0 0 = 0",
                "free 0 1 = 0; free 0 2 = BUSY; free 0 0 = 0");
        t.run("5: \"BUSY when an entry of d has it.\": the first and the last entry", Worlds.TWO, "alloc 0 = 0",
                "alloc 0 = 1; grant 0 1 0 0 = 0", Worlds.times("grant 0 1 9 2", 1, 4), "grant 0 1 1 0 = 5",
                "free 0 0 = BUSY; free 0 1 = BUSY; end 0 5 = 0; free 0 1 = 0; free 0 0 = BUSY");
        t.run("5: not BUSY by a TRANSFER entry that was granted with its number", Worlds.TWO, "alloc 0 = 0",
                "grant 0 1 0 2 = 0; free 0 0 = 0");
        t.run("5: BAD_DOMAIN before NOT_YOURS", Worlds.FADING, "free 3 1 = BAD_DOMAIN; free 3 20 = BAD_DOMAIN",
                "free 4 0 = BAD_DOMAIN; free 5 -1 = BAD_DOMAIN");
        t.run("5: BAD_DOMAIN before BUSY", Worlds.FADING, "free 3 0 = BAD_DOMAIN");
    }

    private static void store(Runs t) {
        t.run("11: \"Word w of page p becomes v\": every word, and no other", Worlds.TWO, "alloc 0 = 0", EVERY_WORD,
                "load 0 0 0 = 10; load 0 0 1 = 11; load 0 0 2 = 12; load 0 0 3 = 13; load 0 0 4 = 14",
                "load 0 0 5 = 15; load 0 0 6 = 16; load 0 0 7 = 17");
        t.run("11: \"becomes v\": 0, 1, -1 and the ends of int", Worlds.TWO, "alloc 0 = 0; store 0 0 5 MAX = 0",
                "load 0 0 5 = 2147483647; store 0 0 5 MIN = 0; load 0 0 5 = 2147483648; store 0 0 5 -1 = 0",
                "load 0 0 5 = 4294967295; store 0 0 5 1 = 0; load 0 0 5 = 1; store 0 0 5 0 = 0; load 0 0 5 = 0");
        t.run("11: the first and the last page", Worlds.NO_PAGE_LEFT, "store 0 0 7 5 = 0; store 3 19 7 6 = 0",
                "load 0 0 7 = 5; load 3 19 7 = 6; load 3 18 7 = 0");
        t.run("11: by a MAPPING for writing at the first and at the last handle", SHARED, "map 1 0 1 true = 0",
                Worlds.times("map 1 0 0 false", 1, 3), "map 1 0 1 true = 4; store 1 2 0 5 = 0; unmap 1 0 = 0",
                "store 1 2 1 6 = 0; load 0 2 0 = 5; load 0 2 1 = 6; unmap 1 4 = 0; store 1 2 0 1 = NOT_YOURS");
        t.run("11: by a MAPPING of a DYING domain's page", Worlds.FADING, "store 2 0 6 5 = 0; load 2 0 6 = 5");
    }

    private static void storeRefused(Runs t) {
        t.notLive("11: \"BAD_DOMAIN when d is not LIVE.\"", "", "store # 0 0 1");
        t.outside("11: \"BAD_ARGUMENT when there is no page p\"", -1, 20, SHARED, "store 0 # 0 1 = BAD_ARGUMENT");
        t.outside("11: \"or no word w\"", -1, 8, SHARED, "store 0 0 # 1 = BAD_ARGUMENT");
        t.run("11: \"NOT_YOURS when d neither owns p\": free, another's, a DYING one's", Worlds.FADING, "alloc 0 = 1",
                "store 0 2 0 1 = NOT_YOURS; store 0 19 7 1 = NOT_YOURS; store 1 1 0 1 = NOT_YOURS",
                "store 1 0 0 1 = NOT_YOURS; load 0 1 0 = 0; load 2 0 0 = 0");
        t.run("11: \"nor has a MAPPING for writing of an entry with p\": granted, but not mapped", SHARED,
                "store 1 2 0 1 = NOT_YOURS");
        t.run("11: \"for writing\": mapped, but not so", SHARED, "map 1 0 0 false = 0; map 1 0 1 false = 1",
                "store 1 1 0 1 = NOT_YOURS; store 1 2 0 1 = NOT_YOURS");
        t.run("11: \"with p\": mapped for writing, but another page", SHARED, "map 1 0 1 true = 0",
                "map 1 0 0 false = 1; store 1 0 0 1 = NOT_YOURS; store 1 1 0 1 = NOT_YOURS");
        t.run("11: NOT_YOURS again after unmap, free, give and RELEASE", SHARED, "map 1 0 1 true = 0; unmap 1 0 = 0",
                "store 1 2 0 1 = NOT_YOURS; free 1 3 = 0; store 1 3 0 1 = NOT_YOURS; grant 1 0 9 2 = 0",
                "give 0 0 1 0 = 0; store 0 0 0 1 = NOT_YOURS; store 1 0 0 1 = 0");
        t.run("11: BAD_DOMAIN before BAD_ARGUMENT", Worlds.FADING, "store 3 20 0 1 = BAD_DOMAIN",
                "store 3 0 8 1 = BAD_DOMAIN; store 4 -1 0 1 = BAD_DOMAIN; store 5 0 -1 1 = BAD_DOMAIN");
        t.run("11: BAD_DOMAIN before NOT_YOURS", Worlds.FADING, "store 3 1 0 1 = BAD_DOMAIN",
                "store 4 0 0 1 = BAD_DOMAIN; store -1 0 0 1 = BAD_DOMAIN");
        t.run("11: BAD_ARGUMENT before NOT_YOURS", SHARED, "store 1 0 8 1 = BAD_ARGUMENT",
                "store 1 0 -1 1 = BAD_ARGUMENT; store 1 19 8 1 = BAD_ARGUMENT; store 1 20 0 1 = BAD_ARGUMENT");
    }

    private static void load(Runs t) {
        t.run("12: \"as a number without sign, 0 .. 2^32 - 1\"", Worlds.TWO, "alloc 0 = 0; load 0 0 0 = 0",
                "store 0 0 0 1 = 0; load 0 0 0 = 1; store 0 0 0 MAX = 0; load 0 0 0 = 2147483647",
                "store 0 0 0 MIN = 0; load 0 0 0 = 2147483648; store 0 0 0 -2147483647 = 0; load 0 0 0 = 2147483649",
                "store 0 0 0 -2 = 0; load 0 0 0 = 4294967294; store 0 0 0 -1 = 0; load 0 0 0 = 4294967295");
        for (int code = -1; code >= -13; code--) {
            t.run("12: a word that looks like a code is a number without sign, too", Worlds.TWO,
                    "alloc 0 = 0; store 0 0 7 " + code + " = 0; load 0 0 7 = " + (4294967296L + code));
        }
        t.run("12: without sign through a MAPPING, too", SHARED, "store 0 1 0 -1 = 0; store 0 2 7 MIN = 0",
                "map 1 0 0 false = 0; map 1 0 1 true = 1; load 1 1 0 = 4294967295; load 1 2 7 = 2147483648");
        t.run("12: by a MAPPING at the first and at the last handle", SHARED, "store 0 1 3 8 = 0; store 0 2 3 9 = 0",
                "map 1 0 0 false = 0", Worlds.times("map 1 0 0 false", 1, 3), "map 1 0 1 false = 4; load 1 1 3 = 8",
                "load 1 2 3 = 9; unmap 1 4 = 0; load 1 2 3 = NOT_YOURS");
    }

    private static void loadRefused(Runs t) {
        t.notLive("12: \"BAD_DOMAIN when d is not LIVE.\"", "", "load # 0 0");
        t.outside("12: \"BAD_ARGUMENT when there is no page p\"", -1, 20, SHARED, "load 0 # 0 = BAD_ARGUMENT");
        t.outside("12: \"or no word w\"", -1, 8, SHARED, "load 0 0 # = BAD_ARGUMENT");
        t.run("12: \"NOT_YOURS when d neither owns p\": free, another's, a DYING one's", Worlds.FADING, "alloc 0 = 1",
                "load 0 2 0 = NOT_YOURS; load 0 19 7 = NOT_YOURS; load 1 1 0 = NOT_YOURS; load 1 0 0 = NOT_YOURS",
                "load 2 0 0 = 0");
        t.run("12: \"nor has a MAPPING of an entry with p\": granted, but not mapped", SHARED,
                "load 1 1 0 = NOT_YOURS; load 1 2 0 = NOT_YOURS");
        t.run("12: \"with p\": mapped, but another page", SHARED, "map 1 0 0 false = 0; load 1 0 0 = NOT_YOURS",
                "load 1 2 0 = NOT_YOURS; load 1 1 0 = 0");
        t.run("12: NOT_YOURS again after unmap, free and give", SHARED, "map 1 0 1 true = 0; unmap 1 0 = 0",
                "load 1 2 0 = NOT_YOURS; free 1 3 = 0; load 1 3 0 = NOT_YOURS; grant 1 0 9 2 = 0; give 0 0 1 0 = 0",
                "load 0 0 0 = NOT_YOURS; load 1 0 0 = 0");
        t.run("12: BAD_DOMAIN before BAD_ARGUMENT", Worlds.FADING, "load 3 20 0 = BAD_DOMAIN",
                "load 3 0 8 = BAD_DOMAIN; load 4 -1 0 = BAD_DOMAIN; load 5 0 -1 = BAD_DOMAIN");
        t.run("12: BAD_DOMAIN before NOT_YOURS", Worlds.FADING, "load 3 1 0 = BAD_DOMAIN; load 4 0 0 = BAD_DOMAIN",
                "load -1 0 0 = BAD_DOMAIN");
        t.run("12: BAD_ARGUMENT before NOT_YOURS", SHARED, "load 1 0 8 = BAD_ARGUMENT; load 1 0 -1 = BAD_ARGUMENT",
                "load 1 19 8 = BAD_ARGUMENT; load 1 20 0 = BAD_ARGUMENT");
    }
}
