/** Promises 6 to 10, sentence by sentence: the edges. */
public final class GrantEdgesTest {
    /** 0 owns page 0, granted to 1: READ (entry 0), WRITE (entry 1), TRANSFER (entry 2); to 2: WRITE (entry 3). */
    private static final String GRANTED = Worlds.THREE
            + "; alloc 0 = 0; grant 0 1 0 0 = 0; grant 0 1 0 1 = 1; grant 0 1 0 2 = 2; grant 0 2 0 1 = 3";

    /** 0 owns pages 0 and 1, 1 in entry 0; entries 0 and 1 of 1 wait for a page from 0, 2 for one from 2; 3 is READ. */
    private static final String WANTED = Worlds.THREE + "; alloc 0 = 0; alloc 0 = 1; grant 0 2 1 0 = 0; alloc 1 = 2"
            + "; grant 1 0 0 2 = 0; grant 1 0 0 2 = 1; grant 1 2 0 2 = 2; grant 1 0 2 0 = 3";

    private GrantEdgesTest() {
    }

    public static void main(String[] args) {
        Runs t = new Runs();
        grant(t);
        grantRefused(t);
        grantOrder(t);
        end(t);
        map(t);
        mapRefused(t);
        mapOrder(t);
        unmap(t);
        give(t);
        giveRefused(t);
        giveOrder(t);
        t.finish();
    }

    private static void grant(Runs t) {
        t.run("6: \"gets the target t\", every other domain, LIVE or not", Worlds.FADING, "alloc 0 = 1",
                "grant 0 1 1 0 = 0; grant 0 2 1 0 = 1; grant 0 3 1 0 = 2; grant 0 4 1 0 = 3; map 1 0 0 false = 0",
                "map 2 0 1 false = 1; map 1 0 1 false = BAD_REF; map 2 0 0 false = BAD_REF");
        t.run("6: the last domain grants to the first", Worlds.FIVE, "alloc 4 = 0; grant 4 0 0 1 = 0",
                "map 0 4 0 true = 0; store 0 0 0 5 = 0; load 4 0 0 = 5");
        t.run("6: \"the kind\": READ, WRITE, TRANSFER", GRANTED, "map 1 0 0 true = READ_ONLY; map 1 0 1 true = 0",
                "map 1 0 2 false = BAD_REF; alloc 1 = 1; give 1 1 0 0 = BAD_REF; give 1 1 0 1 = BAD_REF",
                "give 1 1 0 2 = 0");
        t.run("6: \"the page p\": the first and the last", Worlds.NO_PAGE_LEFT, "grant 0 4 0 0 = 0",
                "grant 3 4 19 0 = 0; map 4 0 0 false = 0; map 4 3 0 false = 1; look 3 4 0 = 0; look 3 4 1 = 19");
        t.run("6: \"(With TRANSFER p is not looked at.)\"", Worlds.FADING, "alloc 1 = 1; grant 0 1 -1 2 = 0",
                "grant 0 1 20 2 = 1; grant 0 1 MIN 2 = 2; grant 0 1 MAX 2 = 3; grant 0 1 1 2 = 4; grant 0 1 0 2 = 5",
                "give 1 1 0 2 = 0; look 1 1 0 = 0");
        t.run("6: one page in many entries", Worlds.TWO, "alloc 0 = 0", Worlds.times("grant 0 1 0 1", 0, 6),
                "map 1 0 0 true = 0; map 1 0 5 true = 1");
    }

    private static void grantRefused(Runs t) {
        t.notLive("6: \"BAD_DOMAIN when d is not LIVE.\"", "alloc 0 = 1", "grant # 1 0 0");
        t.notLive("6: \"BAD_DOMAIN when d is not LIVE.\", TRANSFER", "", "grant # 1 0 2");
        t.outside("6: \"BAD_ARGUMENT when t is not 0 .. 4\"", -1, 5, GRANTED, "grant 0 # 0 0 = BAD_ARGUMENT");
        t.outside("6: \"BAD_ARGUMENT when t is not 0 .. 4\", TRANSFER", -1, 5, GRANTED,
                "grant 0 # 0 2 = BAD_ARGUMENT");
        for (int d = 0; d < 5; d++) {
            t.run("6: \"t is d\"", Worlds.FIVE, "alloc " + d + " = 0; grant " + d + " " + d + " 0 0 = BAD_ARGUMENT",
                    "grant " + d + " " + d + " 0 1 = BAD_ARGUMENT; grant " + d + " " + d + " 0 2 = BAD_ARGUMENT");
        }
        t.outside("6: \"or the kind is not 0, 1, 2\"", -1, 3, GRANTED, "grant 0 1 0 # = BAD_ARGUMENT");
        t.outside("6: \"NOT_YOURS when the kind is READ ... and there is no page p\"", -1, 20, GRANTED,
                "grant 0 1 # 0 = NOT_YOURS");
        t.outside("6: \"NOT_YOURS when the kind is ... WRITE and there is no page p\"", -1, 20, GRANTED,
                "grant 0 1 # 1 = NOT_YOURS");
        t.run("6: \"or d does not own it\": free, another's, another's by mapping, a DYING one's", Worlds.FADING,
                "alloc 0 = 1; grant 0 1 1 1 = 0; map 1 0 0 true = 0; grant 0 1 2 0 = NOT_YOURS",
                "grant 0 1 19 1 = NOT_YOURS; grant 2 1 1 0 = NOT_YOURS; grant 1 2 1 0 = NOT_YOURS",
                "grant 1 2 1 1 = NOT_YOURS; grant 2 1 0 0 = NOT_YOURS; grant 0 1 0 1 = NOT_YOURS");
        t.run("6: \"FULL when d has no free entry.\", READ, WRITE, TRANSFER", GRANTED, "grant 0 1 0 0 = 4",
                "grant 0 1 0 1 = 5; grant 0 1 0 0 = FULL; grant 0 1 0 1 = FULL; grant 0 1 0 2 = FULL; end 0 3 = 0",
                "grant 0 1 0 2 = 3; grant 0 1 0 2 = FULL; grant 1 0 0 2 = 0");
    }

    private static void grantOrder(Runs t) {
        t.run("6: BAD_DOMAIN before BAD_ARGUMENT", Worlds.FADING, "grant 3 5 0 0 = BAD_DOMAIN",
                "grant 3 3 0 0 = BAD_DOMAIN; grant 3 1 0 3 = BAD_DOMAIN; grant 4 4 0 2 = BAD_DOMAIN",
                "grant -1 -1 0 2 = BAD_DOMAIN; grant 5 5 0 9 = BAD_DOMAIN");
        t.run("6: BAD_DOMAIN before NOT_YOURS", Worlds.FADING, "grant 3 1 1 0 = BAD_DOMAIN",
                "grant 4 1 0 1 = BAD_DOMAIN; grant 5 1 20 0 = BAD_DOMAIN");
        t.run("6: BAD_DOMAIN before FULL", Worlds.FADING_WITH_SIX, "grant 0 1 0 0 = BAD_DOMAIN",
                "grant 0 1 0 2 = BAD_DOMAIN");
        t.run("6: BAD_ARGUMENT before NOT_YOURS", GRANTED, "grant 0 5 1 0 = BAD_ARGUMENT",
                "grant 0 0 20 1 = BAD_ARGUMENT; grant 0 1 -1 3 = BAD_ARGUMENT");
        String full = GRANTED + "; grant 0 1 0 0 = 4; grant 0 1 0 0 = 5";
        t.run("6: BAD_ARGUMENT before FULL", full, "grant 0 -1 0 0 = BAD_ARGUMENT; grant 0 0 0 2 = BAD_ARGUMENT",
                "grant 0 1 0 -1 = BAD_ARGUMENT");
        t.run("6: NOT_YOURS before FULL", full, "grant 0 1 1 0 = NOT_YOURS; grant 0 1 20 1 = NOT_YOURS",
                "grant 0 1 20 2 = FULL");
    }

    private static void end(Runs t) {
        t.run("7: \"Entry ref of d becomes free\": READ, WRITE, TRANSFER, the first and the last", GRANTED,
                "grant 0 1 0 0 = 4; grant 0 1 0 1 = 5; end 0 0 = 0; look 2 0 0 = -1; end 0 5 = 0; look 2 0 5 = -1",
                "end 0 2 = 0; look 2 0 2 = -1; look 2 0 1 = 0; look 2 0 3 = 0; look 2 0 4 = 0");
        t.run("7: nothing of the old entry is left in the next", GRANTED, "end 0 1 = 0; grant 0 2 0 0 = 1",
                "map 1 0 1 false = BAD_REF; map 2 0 1 true = READ_ONLY; map 2 0 1 false = 0");
        t.notLive("7: \"BAD_DOMAIN when d is not LIVE.\"", "", "end # 0");
        t.outside("7: \"BAD_REF when there is no such entry\"", -1, 6, GRANTED, "end 0 # = BAD_REF");
        t.run("7: \"or it is free\": never granted, ended, used up by give", WANTED, "end 1 4 = BAD_REF",
                "end 1 5 = BAD_REF; end 1 2 = 0; end 1 2 = BAD_REF; give 0 0 1 0 = 0; end 1 0 = BAD_REF; end 1 1 = 0",
                "end 2 0 = BAD_REF");
        t.run("7: \"BUSY when it is MAPPED.\": by one, by two, by none", GRANTED, "map 1 0 1 true = 0",
                "end 0 1 = BUSY; map 1 0 1 false = 1; end 0 1 = BUSY; unmap 1 0 = 0; end 0 1 = BUSY; end 0 0 = 0",
                "unmap 1 1 = 0; end 0 1 = 0");
        t.run("7: \"BUSY\": the ring entry; not a request's before it is served, nor after", Worlds.RING,
                "submit 0 true 0 1 = 0; end 0 0 = BUSY; serve 0 = 0; end 0 1 = 0; submit 0 true 0 1 = 1",
                "end 0 1 = 0");
        t.run("7: BAD_DOMAIN before BAD_REF", Worlds.FADING, "end 3 1 = BAD_DOMAIN; end 3 6 = BAD_DOMAIN",
                "end 4 0 = BAD_DOMAIN; end 5 -1 = BAD_DOMAIN");
        t.run("7: BAD_DOMAIN before BUSY", Worlds.FADING, "look 2 3 0 = 1; end 3 0 = BAD_DOMAIN");
    }

    private static void map(Runs t) {
        t.run("8: \"a MAPPING of entry ref of the domain from, for writing or not\"", GRANTED, "store 0 0 0 4 = 0",
                "map 1 0 1 false = 0; load 1 0 0 = 4; store 1 0 0 5 = NOT_YOURS; map 1 0 1 true = 1",
                "store 1 0 0 5 = 0; look 2 0 1 = 2; look 2 0 0 = 0; look 3 1 0 = 0; look 3 1 1 = 0");
        t.run("8: the first and the last entry, the first and the last domain", Worlds.FIVE, "alloc 4 = 0",
                Worlds.times("grant 4 0 0 1", 0, 6), "map 0 4 0 true = 0; map 0 4 5 true = 1; look 2 4 0 = 1",
                "look 2 4 5 = 1; alloc 0 = 1; grant 0 4 1 0 = 0; map 4 0 0 false = 0; look 3 4 0 = 1");
        t.run("8: \"FULL when d has no free handle.\", not when one is left", GRANTED,
                Worlds.times("map 1 0 0 false", 0, 4), "map 1 0 1 true = 4; map 1 0 0 false = FULL",
                "map 1 0 1 true = FULL; map 2 0 3 true = 0; unmap 1 2 = 0; map 1 0 1 true = 2",
                "map 1 0 0 false = FULL");
        t.run("8: FULL with a DYING domain's page among the five", Worlds.FADING, "alloc 0 = 1; grant 0 2 1 0 = 0",
                Worlds.times("map 2 0 0 false", 1, 4), "map 2 0 0 false = FULL; unmap 2 0 = 0; map 2 0 0 false = 0");
    }

    private static void mapRefused(Runs t) {
        String forAll = "alloc 0 = 1; grant 0 3 1 0 = 0; grant 0 4 1 0 = 1; grant 0 1 1 0 = 2";
        t.notLive("8: \"BAD_DOMAIN when d ... is not LIVE.\"", forAll, "map # 0 0 false");
        t.run("8: \"BAD_DOMAIN when d ... is not LIVE.\", though the entry is for it", Worlds.FADING, forAll,
                "map 3 0 0 false = BAD_DOMAIN; map 4 0 1 false = BAD_DOMAIN");
        t.notLive("8: \"BAD_DOMAIN when ... from is not LIVE.\"", forAll, "map 2 # 0 false");
        t.run("8: \"BAD_DOMAIN when ... from is not LIVE.\", though it has a MAPPED entry for d", Worlds.FADING,
                "map 2 3 0 true = BAD_DOMAIN; map 2 3 0 false = BAD_DOMAIN");
        t.outside("8: \"BAD_REF when from has no such entry\"", -1, 6, GRANTED, "map 1 0 # false = BAD_REF");
        t.run("8: \"it is free\": never granted, or ended", GRANTED, "map 1 0 4 false = BAD_REF",
                "map 1 0 5 true = BAD_REF; end 0 0 = 0; map 1 0 0 false = BAD_REF; map 1 2 0 false = BAD_REF");
        t.run("8: \"its kind is TRANSFER\"", GRANTED, "map 1 0 2 false = BAD_REF; map 1 0 2 true = BAD_REF");
        t.run("8: \"or its target is not d\": another's, its own", GRANTED, "map 2 0 0 false = BAD_REF",
                "map 1 0 3 false = BAD_REF; map 1 0 3 true = BAD_REF; map 0 0 0 false = BAD_REF",
                "map 0 0 3 true = BAD_REF");
        t.run("8: \"READ_ONLY when it is for writing and the kind is READ.\", not otherwise", GRANTED,
                "map 1 0 0 true = READ_ONLY; map 1 0 0 false = 0; map 1 0 1 true = 1; map 1 0 1 false = 2");
    }

    private static void mapOrder(Runs t) {
        t.run("8: BAD_DOMAIN before BAD_REF", Worlds.FADING, "map 3 0 0 false = BAD_DOMAIN",
                "map 0 3 5 false = BAD_DOMAIN; map 4 4 0 false = BAD_DOMAIN; map 1 5 6 true = BAD_DOMAIN",
                "map 0 -1 -1 true = BAD_DOMAIN");
        t.run("8: BAD_DOMAIN before READ_ONLY", Worlds.TWO, "alloc 0 = 0; grant 0 1 0 0 = 0; map 1 0 0 false = 0",
                "destroy 0 = 0; map 1 0 0 true = BAD_DOMAIN");
        t.run("8: BAD_DOMAIN before FULL", Worlds.FADING_WITH_SIX, "map 1 0 0 false = BAD_DOMAIN",
                "map 1 4 0 false = BAD_DOMAIN");
        t.run("8: BAD_REF before READ_ONLY", GRANTED, "grant 0 2 0 0 = 4; map 1 0 4 true = BAD_REF",
                "map 2 0 0 true = BAD_REF");
        String full = GRANTED + ";" + Worlds.times("map 1 0 0 false", 0, 5);
        t.run("8: BAD_REF before FULL", full, "map 1 0 2 false = BAD_REF; map 1 0 3 true = BAD_REF",
                "map 1 0 5 false = BAD_REF; map 1 0 6 false = BAD_REF; map 1 0 -1 false = BAD_REF");
        t.run("8: READ_ONLY before FULL", full, "map 1 0 0 true = READ_ONLY; map 1 0 1 true = FULL",
                "map 1 0 0 false = FULL");
    }

    private static void unmap(Runs t) {
        t.run("9: \"Takes away the MAPPING of handle h\": the first and the last", GRANTED,
                Worlds.times("map 1 0 0 false", 0, 5), "unmap 1 0 = 0; look 3 1 0 = -1; look 3 1 1 = 0",
                "unmap 1 4 = 0; look 3 1 4 = -1; look 3 1 3 = 0; look 2 0 0 = 3");
        t.run("9: \"(with RELEASE if its entry is one of a DYING domain)\"", Worlds.FADING, "unmap 2 0 = 0",
                "look 0 3 0 = 0; look 1 0 0 = -1; look 2 3 0 = -1; load 2 0 0 = NOT_YOURS");
        t.run("9: without RELEASE if it is not", GRANTED, "map 1 0 0 false = 0; unmap 1 0 = 0; look 2 0 0 = 0",
                "look 1 0 0 = 0; map 1 0 0 false = 0");
        t.notLive("9: \"BAD_DOMAIN when d is not LIVE.\"", "", "unmap # 0");
        t.outside("9: \"BAD_REF when there is no such handle\"", -1, 5, GRANTED + "; map 1 0 0 false = 0",
                "unmap 1 # = BAD_REF");
        t.run("9: \"or it is free\": never used, used once, another domain's", GRANTED, "map 1 0 0 false = 0",
                "unmap 1 1 = BAD_REF; unmap 1 4 = BAD_REF; unmap 2 0 = BAD_REF; unmap 0 0 = BAD_REF; unmap 1 0 = 0",
                "unmap 1 0 = BAD_REF");
        t.run("9: BAD_DOMAIN before BAD_REF", Worlds.FADING, "unmap 3 5 = BAD_DOMAIN; unmap 4 0 = BAD_DOMAIN",
                "unmap 5 -1 = BAD_DOMAIN; unmap -1 9 = BAD_DOMAIN");
    }

    private static void give(Runs t) {
        t.run("10: \"Page p of d becomes a page of the domain to\": the first and the last page", Worlds.NO_PAGE_LEFT,
                "grant 4 0 9 2 = 0; grant 4 3 9 2 = 1; give 0 0 4 0 = 0; give 3 19 4 1 = 0; look 1 0 0 = 4",
                "look 1 19 0 = 4; look 4 4 0 = 2; look 4 0 0 = 5; look 4 3 0 = 1");
        t.run("10: \"its words as they are\", all eight", WANTED, "store 0 0 0 1 = 0; store 0 0 1 -1 = 0",
                "store 0 0 2 3 = 0; store 0 0 3 4 = 0; store 0 0 4 5 = 0; store 0 0 5 6 = 0; store 0 0 6 MIN = 0",
                "store 0 0 7 8 = 0; give 0 0 1 1 = 0; load 1 0 0 = 1; load 1 0 1 = 4294967295; load 1 0 2 = 3",
                "load 1 0 3 = 4; load 1 0 4 = 5; load 1 0 5 = 6; load 1 0 6 = 2147483648; load 1 0 7 = 8");
        t.run("10: \"and to's entry ref becomes free\", no other", WANTED, "give 0 0 1 1 = 0; look 2 1 1 = -1",
                "look 2 1 0 = 0; look 2 1 2 = 0; look 2 1 3 = 0; grant 1 0 0 2 = 1");
        t.run("10: at the first and at the last entry", Worlds.TWO, "alloc 0 = 0; alloc 0 = 1",
                Worlds.times("grant 1 0 0 2", 0, 6), "give 0 0 1 5 = 0; give 0 1 1 0 = 0; look 2 1 5 = -1",
                "look 2 1 0 = -1");
        t.run("10: a page goes round and comes back", WANTED, "give 0 0 1 0 = 0; grant 0 1 0 2 = 1; give 1 0 0 1 = 0",
                "look 1 0 0 = 0; free 0 0 = 0");
        t.run("10: \"FULL when to owns 6 pages.\", not when it owns 5", WANTED, "alloc 0 = 3", Worlds.allocs(1, 4, 4),
                "look 4 1 0 = 5; give 0 0 1 0 = 0; look 4 1 0 = 6; give 0 3 1 1 = FULL; free 1 7 = 0",
                "give 0 3 1 1 = 0");
        t.run("10: a page may be given when no page is free", Worlds.NO_PAGE_LEFT, "grant 4 0 0 2 = 0",
                "give 0 5 4 0 = 0; look 1 5 0 = 4; alloc 0 = FULL");
    }

    private static void giveRefused(Runs t) {
        String wanted = "alloc 0 = 1; alloc 1 = 2; grant 0 1 0 2 = 0; grant 0 3 0 2 = 1; grant 0 4 0 2 = 2";
        t.notLive("10: \"BAD_DOMAIN when d ... is not LIVE.\"", wanted, "give # 0 0 1");
        t.notLive("10: \"BAD_DOMAIN when ... to is not LIVE.\"", wanted, "give 1 2 # 0");
        t.outside("10: \"NOT_YOURS when there is no page p\"", -1, 20, WANTED, "give 0 # 1 0 = NOT_YOURS");
        t.run("10: \"or d does not own it\": free, the taker's, mapped, a DYING one's", Worlds.FADING, wanted,
                "grant 1 2 2 1 = 0; map 2 1 0 true = 1; grant 0 2 0 2 = 3; give 1 3 0 0 = NOT_YOURS",
                "give 1 19 0 0 = NOT_YOURS; give 1 1 0 0 = NOT_YOURS; give 2 2 0 3 = NOT_YOURS",
                "give 2 0 0 3 = NOT_YOURS");
        t.run("10: \"BUSY when an entry of d has it.\": READ, WRITE, MAPPED, not TRANSFER", WANTED,
                "give 0 1 1 0 = BUSY; map 2 0 0 false = 0; give 0 1 1 0 = BUSY; grant 0 2 0 1 = 1",
                "give 0 0 1 0 = BUSY; end 0 1 = 0; grant 0 2 0 2 = 1; give 0 0 1 0 = 0");
        t.run("10: \"BUSY when an entry of d has it.\": the last entry", WANTED, Worlds.times("grant 0 2 9 2", 1, 4),
                "grant 0 2 0 0 = 5; give 0 0 1 0 = BUSY; end 0 5 = 0; give 0 0 1 0 = 0");
        t.outside("10: \"BAD_REF when to has no such entry\"", -1, 6, WANTED, "give 0 0 1 # = BAD_REF");
        t.run("10: \"it is free\": never granted, ended, used up", WANTED, "alloc 0 = 3; give 0 0 1 4 = BAD_REF",
                "give 0 0 1 5 = BAD_REF; end 1 1 = 0; give 0 0 1 1 = BAD_REF; give 0 0 1 0 = 0",
                "give 0 3 1 0 = BAD_REF");
        t.run("10: \"its kind is not TRANSFER\": READ, WRITE", WANTED, "give 0 0 1 3 = BAD_REF; grant 1 0 2 1 = 4",
                "give 0 0 1 4 = BAD_REF");
        t.run("10: \"or its target is not d\": another's, or to is d", WANTED, "give 0 0 1 2 = BAD_REF",
                "grant 0 1 0 2 = 1; give 0 0 0 1 = BAD_REF; give 0 0 0 0 = BAD_REF");
    }

    private static void giveOrder(Runs t) {
        t.run("10: BAD_DOMAIN before NOT_YOURS", Worlds.FADING, "give 3 1 0 0 = BAD_DOMAIN",
                "give 0 1 3 0 = BAD_DOMAIN; give 4 0 0 0 = BAD_DOMAIN; give 0 20 5 0 = BAD_DOMAIN");
        t.run("10: BAD_DOMAIN before BUSY", Worlds.FADING, "give 3 0 0 0 = BAD_DOMAIN; alloc 0 = 1",
                "grant 0 1 1 0 = 0; give 0 1 3 0 = BAD_DOMAIN; give 0 1 4 0 = BAD_DOMAIN");
        t.run("10: BAD_DOMAIN before BAD_REF", Worlds.FADING, "alloc 0 = 1; give 0 1 3 0 = BAD_DOMAIN",
                "give 0 1 4 6 = BAD_DOMAIN; give 0 1 -1 -1 = BAD_DOMAIN");
        t.run("10: BAD_DOMAIN before FULL", Worlds.FADING_WITH_SIX, "alloc 2 = 6; give 2 6 0 0 = BAD_DOMAIN");
        t.run("10: NOT_YOURS before BAD_REF", WANTED, "give 0 2 1 4 = NOT_YOURS; give 0 20 1 6 = NOT_YOURS",
                "give 2 0 1 0 = NOT_YOURS");
        String full = WANTED + ";" + Worlds.allocs(1, 3, 5);
        t.run("10: NOT_YOURS before FULL", full, "give 0 2 1 0 = NOT_YOURS; give 0 -1 1 0 = NOT_YOURS");
        t.run("10: BUSY before BAD_REF", WANTED, "give 0 1 1 4 = BUSY; give 0 1 1 2 = BUSY; give 0 1 1 -1 = BUSY",
                "give 0 1 0 0 = BUSY");
        t.run("10: BUSY before FULL", full, "give 0 1 1 0 = BUSY");
        t.run("10: BAD_REF before FULL", full, "give 0 0 1 2 = BAD_REF; give 0 0 1 3 = BAD_REF",
                "give 0 0 1 5 = BAD_REF; give 0 0 1 6 = BAD_REF; give 0 0 1 0 = FULL");
    }
}
