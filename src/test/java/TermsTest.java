/** The sentences of the document's "Terms", which hold for all promises. */
public final class TermsTest {
    private TermsTest() {
    }

    public static void main(String[] args) {
        Runs t = new Runs();
        domainsAndPages(t);
        atMostSixPages(t);
        grants(t);
        mappingsTakenAway(t);
        mappingsThatStay(t);
        release(t);
        ports(t);
        devices(t);
        broken(t);
        whole(t);
        ringWords(t);
        storedByOthers(t);
        leastFreeOne(t);
        t.finish();
    }

    private static void domainsAndPages(Runs t) {
        t.run("\"DOMAINS 0 .. 4 are each NONE, LIVE or DYING.\"", Worlds.FADING, "look 0 0 0 = 1; look 0 3 0 = 2",
                "look 0 4 0 = 0; look 0 -1 0 = -1; look 0 5 0 = -1");
        t.run("\"PAGES 0 .. 19 have 8 words (ints, 0 .. 7) each\", first and last", Worlds.NO_PAGE_LEFT,
                "store 0 0 0 11 = 0; store 0 0 7 12 = 0; store 3 19 0 13 = 0; store 3 19 7 14 = 0; load 0 0 0 = 11",
                "load 0 0 7 = 12; load 3 19 0 = 13; load 3 19 7 = 14; load 3 18 7 = 0; load 0 1 0 = 0",
                "store 0 0 8 1 = BAD_ARGUMENT; load 3 20 0 = BAD_ARGUMENT; load 3 19 8 = BAD_ARGUMENT");
        t.run("\"8 words (ints, 0 .. 7) each\", the ends of int", Worlds.TWO, "alloc 0 = 0; store 0 0 3 MIN = 0",
                "load 0 0 3 = 2147483648; store 0 0 3 MAX = 0; load 0 0 3 = 2147483647; store 0 0 3 -1 = 0",
                "load 0 0 3 = 4294967295");
        t.run("\"a page is free or has one OWNER, a domain\"", Worlds.TWO, "look 1 0 0 = -1; alloc 1 = 0",
                "look 1 0 0 = 1; grant 0 1 9 2 = 0; give 1 0 0 0 = 0; look 1 0 0 = 0; look 4 1 0 = 0; free 0 0 = 0",
                "look 1 0 0 = -1");
    }

    private static void atMostSixPages(Runs t) {
        t.run("\"a domain owns at most 6.\", by alloc", Worlds.TWO, Worlds.allocs(0, 0, 6), "alloc 0 = FULL",
                "look 4 0 0 = 6");
        t.run("\"a domain owns at most 6.\", by give", Worlds.TWO, Worlds.allocs(0, 0, 6), "alloc 1 = 6",
                "grant 0 1 0 2 = 0; give 1 6 0 0 = FULL; look 4 0 0 = 6; look 4 1 0 = 1");
        t.run("\"a domain owns at most 6.\", by attach", Worlds.TWO, Worlds.allocs(0, 0, 6), "attach 0 1 = FULL",
                "look 4 0 0 = 6");
        t.run("\"a domain owns at most 6.\", by submit", Worlds.RING, Worlds.allocs(0, 1, 5),
                "submit 0 true 0 1 = FULL; look 4 0 0 = 6");
        t.run("mappings of other pages do not count among the 6", Worlds.TWO, "alloc 1 = 0; grant 1 0 0 1 = 0",
                "map 0 1 0 true = 0", Worlds.allocs(0, 1, 6), "alloc 0 = FULL; load 0 0 0 = 0");
    }

    private static void grants(Runs t) {
        for (int d = 0; d < 5; d++) {
            int other = (d + 1) % 5;
            t.run("\"Every domain has ENTRIES 0 .. 5.\", domain " + d, Worlds.FIVE,
                    Worlds.times("grant " + d + " " + other + " 0 2", 0, 6),
                    "grant " + d + " " + other + " 0 2 = FULL; look 2 " + d + " 5 = 0; look 2 " + d + " 6 = -1",
                    "end " + d + " 5 = 0; end " + d + " 6 = BAD_REF");
        }
        t.run("\"a TARGET (a number 0 .. 4, whatever that domain is)\"", Worlds.FADING, "alloc 0 = 1",
                "grant 0 3 1 0 = 0; grant 0 4 1 1 = 1; grant 0 4 1 2 = 2; grant 0 3 1 2 = 3");
        t.run("a target's death and new life leave the entry as it is", Worlds.TWO, "alloc 0 = 0; grant 0 1 0 1 = 0",
                "destroy 1 = 0; look 2 0 0 = 0; free 0 0 = BUSY; create = 1; map 1 0 0 true = 0; store 1 0 0 3 = 0",
                "load 0 0 0 = 3");
        t.run("\"2 TRANSFER without a page\"", Worlds.TWO, "alloc 0 = 0; alloc 0 = 1; grant 0 1 0 2 = 0",
                "grant 0 1 1 2 = 1; map 1 0 0 false = BAD_REF; free 0 0 = 0; grant 1 0 9 2 = 0; give 0 1 1 0 = 0",
                "look 2 0 0 = 0; look 2 0 1 = 0");
        t.run("\"HANDLES 0 .. 4 of a domain are each free or a MAPPING\"", Worlds.TWO, "alloc 0 = 0",
                "grant 0 1 0 0 = 0", Worlds.times("map 1 0 0 false", 0, 5), "map 1 0 0 false = FULL; look 3 1 4 = 0",
                "look 3 1 5 = -1; unmap 1 5 = BAD_REF; unmap 1 4 = 0; look 3 1 4 = -1");
    }

    private static void mappingsTakenAway(Runs t) {
        String twice = Worlds.TWO + "; alloc 0 = 0; grant 0 1 0 1 = 0; map 1 0 0 false = 0; map 1 0 0 true = 1";
        t.run("\"An entry that has MAPPINGS is MAPPED.\"", twice, "end 0 0 = BUSY; unmap 1 0 = 0; end 0 0 = BUSY",
                "unmap 1 1 = 0; end 0 0 = 0");
        t.run("\"A MAPPING is taken away only by unmap\": the one named", twice, "unmap 1 1 = 0; look 3 1 0 = 0",
                "look 3 1 1 = -1; load 1 0 0 = 0; store 1 0 0 1 = NOT_YOURS; look 2 0 0 = 1");
        t.run("\"by serve (its own one)\": others of the same entry stay", Worlds.RING, "submit 0 true 3 8 = 0",
                "map 1 0 1 false = 1; map 1 0 1 false = 2; unmap 1 1 = 0; serve 0 = 0; look 3 1 1 = -1",
                "look 3 1 2 = 1; look 2 0 1 = 1; look 3 1 0 = 0");
        t.run("\"by the death of the domain that has the handle\": all of them, and no other's", Worlds.THREE,
                "alloc 0 = 0; grant 0 1 0 0 = 0; grant 0 2 0 0 = 1", Worlds.times("map 1 0 0 false", 0, 5),
                "map 2 0 1 false = 0; look 2 0 0 = 5; destroy 1 = 0; look 2 0 0 = 0; look 2 0 1 = 1; look 3 2 0 = 0");
    }

    private static void mappingsThatStay(Runs t) {
        t.run("a MAPPING outlives the domain that granted it", Worlds.TWO, "alloc 0 = 0; store 0 0 1 6 = 0",
                "grant 0 1 0 1 = 0; map 1 0 0 true = 0; destroy 0 = 0; look 3 1 0 = 0; load 1 0 1 = 6",
                "store 1 0 1 7 = 0");
        t.run("a MAPPING outlives another's death", Worlds.THREE, "alloc 0 = 0; grant 0 1 0 1 = 0",
                "map 1 0 0 true = 0; destroy 2 = 0; look 3 1 0 = 0; look 2 0 0 = 1");
        t.run("a MAPPING outlives a refused end, free, give and map", Worlds.TWO, "alloc 0 = 0; grant 0 1 0 0 = 0",
                "map 1 0 0 false = 0; grant 1 0 0 2 = 0; end 0 0 = BUSY; free 0 0 = BUSY; give 0 0 1 0 = BUSY",
                "map 1 0 0 true = READ_ONLY; look 2 0 0 = 1; load 1 0 0 = 0");
        t.run("a MAPPING outlives reap", Worlds.RING, "submit 0 true 3 8 = 0; map 1 0 1 false = 1; serve 0 = 0",
                "reap 0 = 8; look 3 1 1 = 1; load 1 1 0 = 8; look 2 0 1 = 1");
        t.run("the ring's MAPPING outlives its device", Worlds.RING, "destroy 0 = 0; look 6 0 0 = -1; look 3 1 0 = 0",
                "store 1 0 0 5 = 0; load 1 0 0 = 5; look 0 0 0 = 2");
    }

    private static void release(Runs t) {
        t.run("RELEASE: \"whose entry has just lost its last MAPPING\", not the last but one", Worlds.TWO,
                "alloc 0 = 0; grant 0 1 0 0 = 0; map 1 0 0 false = 0; map 1 0 0 false = 1; destroy 0 = 0",
                "unmap 1 1 = 0; look 2 0 0 = 1; look 0 0 0 = 2; look 1 0 0 = 0; unmap 1 0 = 0; look 2 0 0 = -1",
                "look 0 0 0 = 0");
        t.run("RELEASE: \"for a DYING domain\", not for a LIVE one", Worlds.TWO, "alloc 0 = 0; grant 0 1 0 0 = 0",
                "map 1 0 0 false = 0; unmap 1 0 = 0; look 2 0 0 = 0; look 1 0 0 = 0; look 0 0 0 = 1",
                "free 0 0 = BUSY");
        t.run("RELEASE: \"the entry becomes free\"", Worlds.TWO, "alloc 0 = 0; alloc 0 = 1; grant 0 1 0 0 = 0",
                "grant 0 1 1 0 = 1; map 1 0 0 false = 0; map 1 0 1 false = 1; destroy 0 = 0; unmap 1 0 = 0",
                "look 2 0 0 = -1; look 2 0 1 = 1");
        t.run("RELEASE: \"its page becomes free unless another MAPPED entry has it\"", Worlds.THREE, "alloc 0 = 0",
                "grant 0 1 0 0 = 0; grant 0 2 0 0 = 1; grant 0 2 0 1 = 2; map 1 0 0 false = 0; map 2 0 1 false = 0",
                "destroy 0 = 0; look 2 0 2 = -1; unmap 2 0 = 0; look 1 0 0 = 0; look 0 0 0 = 2; look 2 0 1 = -1",
                "alloc 1 = 1; unmap 1 0 = 0; look 1 0 0 = -1; look 0 0 0 = 0; alloc 1 = 0");
        t.run("RELEASE: \"when the domain owns no page any more, it becomes NONE\", one page after the other",
                Worlds.FADING_WITH_SIX, "look 4 0 0 = 6; unmap 1 0 = 0; look 4 0 0 = 5; unmap 1 1 = 0; unmap 1 2 = 0",
                "unmap 1 3 = 0; look 4 0 0 = 2; look 0 0 0 = 2; unmap 1 4 = 0; look 4 0 0 = 1; look 0 0 0 = 2",
                "look 1 4 0 = -1; create = 3; unmap 2 0 = 0; look 4 0 0 = 0; look 0 0 0 = 0; look 1 5 0 = -1",
                "create = 0");
        t.run("RELEASE by death, of the last MAPPINGS of two domains at once", Worlds.THREE, "alloc 0 = 0",
                "alloc 1 = 1; grant 0 2 0 0 = 0; grant 1 2 1 0 = 0; map 2 1 0 false = 0; map 2 0 0 false = 1",
                "map 2 0 0 false = 2; destroy 1 = 0; destroy 0 = 0; destroy 2 = 0; look 0 0 0 = 0; look 0 1 0 = 0",
                "look 1 0 0 = -1; look 1 1 0 = -1; create = 0; create = 1; create = 2");
    }

    private static void ports(Runs t) {
        t.run("\"PORTS 0 .. 3 of a domain\"", Worlds.FIVE, Worlds.times("open 4 0", 0, 4), "open 4 0 = FULL",
                "bind 0 4 3 = 0; bind 0 4 4 = BAD_PORT; bind 0 4 -1 = BAD_PORT; send 4 3 = 1; send 4 4 = BAD_PORT",
                "next 0 = 0");
        t.run("\"closed, WAITING for a domain, or JOINED to a port of another domain that is JOINED to it\"",
                Worlds.TWO, "send 0 0 = BAD_PORT; bind 1 0 0 = BAD_PORT; open 0 1 = 0; send 0 0 = BAD_PORT",
                "bind 1 0 0 = 0; send 0 0 = 1; send 1 0 = 1; bind 1 0 0 = BAD_PORT; bind 0 1 0 = BAD_PORT");
        t.run("\"a JOINED port may be PENDING\", each on its own", Worlds.TWO, "open 0 1 = 0; open 0 1 = 1",
                "bind 1 0 0 = 0; bind 1 0 1 = 1; send 0 1 = 1; next 0 = IDLE; next 1 = 1; next 1 = IDLE");
    }

    private static void devices(Runs t) {
        t.run("\"DEVICES 0 .. 2 are each absent or have a FRONT domain and a BACK domain\"", Worlds.THREE,
                "attach 0 1 = 0; attach 1 2 = 1; look 6 2 0 = -1; attach 2 0 = 2; attach 0 1 = FULL; look 6 2 0 = 0",
                "look 6 3 0 = -1; serve 2 = IDLE; serve 3 = NO_DEVICE");
        t.run("\"a DISK of 8 sectors (ints 0 at first)\"", Worlds.RING, "look 5 0 0 = 0; look 5 0 1 = 0",
                "look 5 0 2 = 0; look 5 0 3 = 0; look 5 0 4 = 0; look 5 0 5 = 0; look 5 0 6 = 0; look 5 0 7 = 0",
                "look 5 0 8 = -1; submit 0 false 7 9 = 0; serve 0 = 0; reap 0 = 0");
        t.run("\"for the latest three requests the front's notes of a page and an entry\"", Worlds.RING,
                "submit 0 true 0 21 = 0; submit 0 true 1 22 = 1; submit 0 true 2 23 = 2; serve 0 = 0; serve 0 = 0",
                "reap 0 = 21; submit 0 true 3 24 = 3; reap 0 = 22; submit 0 true 4 25 = 4; serve 0 = 0; serve 0 = 0",
                "serve 0 = 0; reap 0 = 23; reap 0 = 24; reap 0 = 25; look 4 0 0 = 1; look 2 0 1 = -1",
                "look 2 0 2 = -1; look 2 0 3 = -1");
        t.run("each device has its own numbers, notes and disk", Worlds.TWO, "attach 0 1 = 0; attach 0 1 = 1",
                "attach 1 0 = 2; submit 0 true 5 31 = 0; submit 1 true 5 32 = 0; submit 2 true 5 33 = 0; serve 2 = 0",
                "serve 1 = 0; look 5 0 5 = 0; look 5 1 5 = 32; look 5 2 5 = 33; reap 2 = 33; look 6 0 0 = 1",
                "look 6 1 0 = 1; look 6 2 0 = 0; serve 0 = 0; reap 0 = 31; reap 1 = 32; submit 1 true 5 1 = 1",
                "submit 2 true 5 1 = 1; submit 0 true 5 1 = 1");
    }

    private static final String ALL_BROKEN =
            "; submit 0 true 0 1 = BROKEN; submit 0 false 0 1 = BROKEN; serve 0 = BROKEN; reap 0 = BROKEN";

    private static void broken(Runs t) {
        String waiting = Worlds.RING + "; submit 0 true 1 5 = 0; submit 0 true 2 6 = 1; serve 0 = 0";
        t.run("BROKEN \"while its ring handle is not a MAPPING\"", waiting, "unmap 1 0 = 0", ALL_BROKEN,
                "look 6 0 0 = 2; look 5 0 1 = 5");
        t.run("BROKEN with the ring entry MAPPED at another handle", waiting, "map 1 0 0 true = 1; unmap 1 0 = 0",
                ALL_BROKEN);
        t.run("BROKEN without \"for writing\"", waiting, "unmap 1 0 = 0; map 1 0 0 false = 0", ALL_BROKEN);
        t.run("BROKEN with a MAPPING of another entry with the ring page", waiting, "grant 0 1 0 1 = 3",
                "unmap 1 0 = 0; map 1 0 3 true = 0", ALL_BROKEN);
        t.run("BROKEN without \"the ring page in it\"", waiting, "alloc 0 = 3; unmap 1 0 = 0; end 0 0 = 0",
                "grant 0 1 3 1 = 0; map 1 0 0 true = 0", ALL_BROKEN);
        t.run("BROKEN with a MAPPING of an entry of another domain", Worlds.THREE, "attach 0 1 = 0; alloc 2 = 1",
                "grant 2 1 1 1 = 0; unmap 1 0 = 0; map 1 2 0 true = 0", ALL_BROKEN);
        t.run("BROKEN with the ring page given away and granted by its new owner", Worlds.THREE, "attach 0 1 = 0",
                "unmap 1 0 = 0; end 0 0 = 0; grant 2 0 9 2 = 0; give 0 0 2 0 = 0; grant 2 1 0 1 = 0",
                "map 1 2 0 true = 0", ALL_BROKEN);
        t.run("one BROKEN device leaves the next one whole", Worlds.TWO, "attach 0 1 = 0; attach 0 1 = 1",
                "unmap 1 0 = 0; serve 0 = BROKEN; serve 1 = IDLE; submit 1 true 0 3 = 0; serve 1 = 0; reap 1 = 3");
    }

    private static void whole(Runs t) {
        t.run("BROKEN no longer than that: mapped again at the ring handle", Worlds.RING, "submit 0 true 1 5 = 0",
                "unmap 1 0 = 0; serve 0 = BROKEN; map 1 0 0 true = 0; serve 0 = 0; reap 0 = 5");
        t.run("not BROKEN by more mappings, or by requests under way", Worlds.RING, "map 1 0 0 false = 1",
                "map 1 0 0 true = 2; submit 0 true 1 5 = 0; serve 0 = 0; reap 0 = 5");
        t.run("not BROKEN when the ring entry was ended and granted anew with the ring page", Worlds.RING,
                "submit 0 true 1 5 = 0; unmap 1 0 = 0; end 0 0 = 0; grant 0 1 0 1 = 0; serve 0 = BROKEN",
                "map 1 0 0 true = 0; serve 0 = 0; reap 0 = 5");
    }

    private static void ringWords(Runs t) {
        t.run("\"0 requests put in, 1 responses put in\"", Worlds.RING, "load 0 0 0 = 0; load 0 0 1 = 0",
                "submit 0 true 0 1 = 0; load 0 0 0 = 1; load 0 0 1 = 0; submit 0 true 0 1 = 1; load 0 0 0 = 2",
                "serve 0 = 0; load 0 0 1 = 1; reap 0 = 1; load 0 0 0 = 2; load 0 0 1 = 1; serve 0 = 0",
                "load 0 0 0 = 2; load 0 0 1 = 2");
        t.run("\"2 + q % 3 request number q (from 0)\", twice round and one more", Worlds.RING,
                "submit 0 true 1 7 = 0; load 0 0 2 = 25; serve 0 = 0; reap 0 = 7; submit 0 true 2 7 = 1",
                "load 0 0 3 = 26; serve 0 = 0; reap 0 = 7; submit 0 true 3 7 = 2; load 0 0 4 = 27; serve 0 = 0",
                "reap 0 = 7; submit 0 true 4 7 = 3; load 0 0 2 = 28; load 0 0 3 = 26; load 0 0 4 = 27; serve 0 = 0",
                "reap 0 = 7; submit 0 true 5 7 = 4; load 0 0 3 = 29; serve 0 = 0; reap 0 = 7; submit 0 true 6 7 = 5",
                "load 0 0 4 = 30; serve 0 = 0; reap 0 = 7; submit 0 true 7 7 = 6; load 0 0 2 = 31; load 0 0 3 = 29",
                "load 0 0 4 = 30");
        String marked = "; store 0 0 5 91 = 0; store 0 0 6 92 = 0; store 0 0 7 93 = 0; submit 0 true 0 7 = ";
        for (int q = 0; q < 7; q++) {
            String word = " 0 " + (5 + q % 3);
            t.run("\"5 + q % 3 the response to it\", request " + q, Worlds.RING, Worlds.rounds(0, q), marked + q,
                    "serve 0 = 0; load 0" + word + " = 0; store 1" + word + " 4 = 0; reap 0 = FAILED",
                    "load 0 0 5 = " + (q % 3 == 0 ? 4 : 91), "load 0 0 6 = " + (q % 3 == 1 ? 4 : 92),
                    "load 0 0 7 = " + (q % 3 == 2 ? 4 : 93));
        }
        t.run("a run of 512 calls goes round the ring many times", Worlds.RING, Worlds.rounds(0, 169),
                "look 6 0 0 = 0; look 4 0 0 = 1");
    }

    private static void storedByOthers(Runs t) {
        String third = Worlds.THREE + "; attach 0 1 = 0; grant 0 2 0 1 = 1; map 2 0 1 true = 0";
        t.run("\"The words can be stored to by whoever may store there\": front, back and a third", third,
                "store 0 0 0 1 = 0; store 0 0 2 96 = 0; serve 0 = BAD_REF; store 1 0 0 2 = 0; store 1 0 3 96 = 0",
                "serve 0 = BAD_REF; store 2 0 0 3 = 0; store 2 0 4 96 = 0; serve 0 = BAD_REF; store 2 0 0 9 = 0",
                "serve 0 = BAD_RING; store 1 0 0 3 = 0; serve 0 = IDLE");
        t.run("not by who has it mapped for reading alone", Worlds.THREE, "attach 0 1 = 0; grant 0 2 0 1 = 1",
                "map 2 0 1 false = 0; store 2 0 0 1 = NOT_YOURS; store 2 0 7 1 = NOT_YOURS; serve 0 = IDLE");
        t.run("\"POSTED ... can not\"", third, "submit 0 true 0 5 = 0; store 2 0 0 40 = 0; store 2 0 1 40 = 0",
                "look 6 0 0 = 1; submit 0 true 0 6 = 1; load 2 0 0 = 2; load 2 0 1 = 40; look 6 0 0 = 2");
        t.run("\"REAPED ... can not\"", third, "submit 0 true 0 5 = 0; submit 0 true 0 6 = 1; serve 0 = 0",
                "reap 0 = 5; store 2 0 1 0 = 0; reap 0 = BAD_RING; look 6 0 0 = 1; store 2 0 1 2 = 0; reap 0 = 6");
        t.run("\"TAKEN ... can not\"", third, "submit 0 true 0 5 = 0; serve 0 = 0; store 2 0 1 0 = 0; serve 0 = IDLE",
                "submit 0 true 0 6 = 1; serve 0 = 0; load 2 0 1 = 2; look 5 0 0 = 6");
        t.run("\"notes ... can not\"", third, "submit 0 true 0 5 = 0; submit 0 true 0 6 = 1; store 2 0 2 56 = 0",
                "serve 0 = 0; look 5 0 0 = 6; reap 0 = 5; look 2 0 2 = -1; look 2 0 3 = 0; look 1 1 0 = -1",
                "look 1 2 0 = 0");
        t.run("\"DISK can not\"", third, "submit 0 true 0 5 = 0; serve 0 = 0; store 0 1 0 8 = 0; look 5 0 0 = 5",
                "reap 0 = 8; submit 0 false 0 0 = 1; serve 0 = 0; store 0 1 0 9 = 0; look 5 0 0 = 5");
    }

    private static void leastFreeOne(Runs t) {
        t.run("\"The least free one is always taken.\": domains", Worlds.FIVE, "destroy 4 = 0; destroy 2 = 0",
                "destroy 3 = 0; create = 2; destroy 0 = 0; create = 0; create = 3; create = 4");
        t.run("\"The least free one is always taken.\": pages", Worlds.NO_PAGE_LEFT, "free 3 19 = 0; free 1 9 = 0",
                "free 0 0 = 0; alloc 4 = 0; alloc 4 = 9; alloc 4 = 19; alloc 4 = FULL");
        t.run("\"The least free one is always taken.\": entries", Worlds.TWO, Worlds.times("grant 0 1 0 2", 0, 6),
                "end 0 5 = 0; end 0 0 = 0; end 0 3 = 0; grant 0 1 0 2 = 0; grant 0 1 0 2 = 3; grant 0 1 0 2 = 5");
        t.run("\"The least free one is always taken.\": handles", Worlds.TWO, "alloc 0 = 0; grant 0 1 0 0 = 0",
                Worlds.times("map 1 0 0 false", 0, 5), "unmap 1 4 = 0; unmap 1 2 = 0; unmap 1 0 = 0",
                "map 1 0 0 false = 0; map 1 0 0 false = 2; map 1 0 0 false = 4; map 1 0 0 false = FULL");
        t.run("\"The least free one is always taken.\": ports", Worlds.FIVE, "open 0 1 = 0; open 0 2 = 1",
                "open 0 3 = 2; open 0 4 = 3; bind 1 0 0 = 0; bind 3 0 2 = 0; bind 4 0 3 = 0; destroy 4 = 0",
                "destroy 1 = 0; open 0 2 = 0; destroy 3 = 0; open 2 0 = 0; bind 0 2 0 = 2; open 0 2 = 3",
                "open 0 2 = FULL");
        t.run("\"The least free one is always taken.\": devices", Worlds.FIVE, "attach 0 1 = 0; attach 0 2 = 1",
                "attach 0 3 = 2; destroy 3 = 0; destroy 1 = 0; attach 0 4 = 0; destroy 2 = 0; attach 0 4 = 1",
                "attach 0 4 = 2; attach 4 0 = FULL");
    }
}
