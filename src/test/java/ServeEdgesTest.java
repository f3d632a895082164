/** Promise 19, sentence by sentence: the edges. */
public final class ServeEdgesTest {
    private static final String RING = Worlds.RING;

    /** No entry 6 can be: a request that is taken, but changes no more than the ring's words. */
    private static final int NO_ENTRY = 6 << 4;

    private ServeEdgesTest() {
    }

    public static void main(String[] args) {
        Runs t = new Runs();
        refused(t);
        howManyWait(t);
        order(t);
        request(t);
        endsOfRequests(t);
        refusedMaps(t);
        roomForTheMapping(t);
        response(t);
        onRingPage(t);
        t.finish();
    }

    private static void refused(Runs t) {
        t.outside("19: \"NO_DEVICE ... as with submit\": none of 0 .. 2", -1, 3, Worlds.THREE_DEVICES,
                "serve # = NO_DEVICE");
        t.run("19: \"NO_DEVICE\": absent, never attached or no more", RING, "serve 1 = NO_DEVICE",
                "serve 2 = NO_DEVICE; submit 0 true 0 1 = 0; destroy 0 = 0; serve 0 = NO_DEVICE");
        t.run("19: the first and the last device", Worlds.THREE_DEVICES, "submit 0 true 0 5 = 0",
                "submit 2 true 0 6 = 0; serve 2 = 0; serve 0 = 0; serve 1 = IDLE; look 5 0 0 = 5; look 5 2 0 = 6",
                "look 5 1 0 = 0");
        t.run("19: \"BROKEN as with submit\"", RING, "submit 0 true 0 1 = 0; unmap 1 0 = 0; serve 0 = BROKEN",
                "map 1 0 0 false = 0; serve 0 = BROKEN; unmap 1 0 = 0; map 1 0 0 true = 0; serve 0 = 0");
    }

    /** At each number of requests taken: which counts of requests are IDLE, which are BAD_RING, which are served. */
    private static void howManyWait(Runs t) {
        for (int taken = 0; taken < 8; taken++) {
            String title = "19: \"n = word 0 of the ring page minus TAKEN, reckoned exactly\", TAKEN " + taken;
            String before = RING + ";" + Worlds.rounds(0, taken)
                    + "; store 1 0 " + (2 + taken % 3) + " " + NO_ENTRY + " = 0";
            for (int n = 1; n <= 3; n++) {
                t.run(title + ", \"1 .. 3\"", before,
                        "store 1 0 0 " + (taken + n) + " = 0; serve 0 = BAD_REF; load 0 0 1 = " + (taken + 1));
            }
            t.run(title + ", \"IDLE when n is 0\"", before,
                    "store 1 0 0 " + taken + " = 0; serve 0 = IDLE; load 0 0 1 = " + taken);
            int[] wrong = {taken - 1, taken - 2, taken - 3, taken - 4, taken + 4, taken + 5, -taken - 1, -1, -3,
                Integer.MIN_VALUE, Integer.MIN_VALUE + taken, Integer.MIN_VALUE + taken + 1,
                Integer.MIN_VALUE + taken + 3, Integer.MAX_VALUE, Integer.MAX_VALUE - taken, Integer.MAX_VALUE - 3};
            for (int word : wrong) {
                t.run(title + ", \"BAD_RING when it is not 1 .. 3\"", before,
                        "store 1 0 0 " + word + " = 0; serve 0 = BAD_RING; load 0 0 1 = " + taken);
            }
        }
        t.run("19: only the words of its own ring page count", Worlds.THREE_DEVICES, "store 1 1 0 9 = 0",
                "store 2 2 0 -1 = 0; serve 0 = IDLE; serve 1 = BAD_RING; serve 2 = BAD_RING");
    }

    private static void order(Runs t) {
        t.run("19: NO_DEVICE before BROKEN and IDLE", RING, "unmap 1 0 = 0; destroy 1 = 0; serve 0 = NO_DEVICE",
                "serve 1 = NO_DEVICE");
        t.run("19: BROKEN before IDLE", RING, "unmap 1 0 = 0; serve 0 = BROKEN");
        t.run("19: BROKEN before BAD_RING", RING, "store 0 0 0 9 = 0; unmap 1 0 = 0; serve 0 = BROKEN",
                "store 0 0 0 -1 = 0; serve 0 = BROKEN");
        t.run("19: IDLE, not BAD_RING, when n is 0", RING, "serve 0 = IDLE; submit 0 true 0 1 = 0; serve 0 = 0",
                "serve 0 = IDLE; store 0 0 0 0 = 0; serve 0 = BAD_RING");
    }

    private static void request(Runs t) {
        for (int sector = 0; sector < 8; sector++) {
            t.run("19: \"the sector is r & 7\", to write " + sector, RING,
                    "submit 0 true " + sector + " 5 = 0; serve 0 = 0; look 5 0 " + sector + " = 5",
                    "look 5 0 " + (sector + 1) % 8 + " = 0; look 5 0 " + (sector + 7) % 8 + " = 0",
                    "submit 0 false " + sector + " 0 = 1; serve 0 = 0; load 0 2 0 = 5; reap 0 = 5; reap 0 = 5");
        }
        for (int taken = 0; taken < 7; taken++) {
            int word = 2 + taken % 3;
            t.run("19: \"the word r in 2 + TAKEN % 3 of the ring page\", TAKEN " + taken, RING,
                    Worlds.rounds(0, taken), "alloc 0 = 1; store 0 1 0 50 = 0; grant 0 1 1 0 = 1; store 0 0 2 24 = 0",
                    "store 0 0 3 25 = 0; store 0 0 4 26 = 0", "store 0 0 0 " + (taken + 1) + " = 0; serve 0 = 0",
                    "look 5 0 0 = " + (word == 2 ? 50 : taken > 0 ? 7 : 0), "look 5 0 1 = " + (word == 3 ? 50 : 0),
                    "look 5 0 2 = " + (word == 4 ? 50 : 0));
        }
        t.run("19: \"it is to write if r & 8 is not 0\"", RING, "alloc 0 = 1; store 0 1 0 9 = 0; grant 0 1 1 1 = 1",
                "store 0 0 2 28 = 0; store 0 0 3 20 = 0; store 0 0 4 21 = 0; store 0 0 0 1 = 0; serve 0 = 0",
                "look 5 0 4 = 9; store 0 1 0 8 = 0; store 0 0 0 2 = 0; serve 0 = 0; load 0 1 0 = 9; look 5 0 4 = 9",
                "store 0 0 0 3 = 0; serve 0 = 0; load 0 1 0 = 0; look 5 0 5 = 0");
        t.run("19: \"the sector becomes word 0 of the entry's page\": no other word, at the ends of int", RING,
                "submit 0 true 1 MIN = 0; submit 0 true 2 MAX = 1; submit 0 true 3 -1 = 2; store 0 1 1 77 = 0",
                "serve 0 = 0; serve 0 = 0; serve 0 = 0; look 5 0 1 = 2147483648; look 5 0 2 = 2147483647",
                "look 5 0 3 = 4294967295; load 0 1 0 = 2147483648; load 0 1 1 = 77");
        t.run("19: \"that word becomes the sector if it is to read\": no other word", RING, Worlds.rounds(0, 1),
                "submit 0 false 0 0 = 1; store 0 1 0 3 = 0; store 0 1 1 77 = 0; store 0 1 7 78 = 0; serve 0 = 0",
                "load 0 1 0 = 7; load 0 1 1 = 77; load 0 1 7 = 78; look 5 0 0 = 7");
        t.run("19: what the page holds at the time of serve counts", RING, "submit 0 true 0 5 = 0; store 0 1 0 6 = 0",
                "serve 0 = 0; look 5 0 0 = 6; reap 0 = 6");
    }

    /** r with every bit below the entry's, and the entries at the ends of what r can name. */
    private static void endsOfRequests(Runs t) {
        String six = RING + "; alloc 0 = 1; store 0 1 0 9 = 0;" + Worlds.times("grant 0 1 1 1", 1, 5)
                + "; store 0 0 0 1 = 0";
        t.run("19: \"the entry is r >> 4\": the last entry, 5", six, "store 0 0 2 95 = 0; serve 0 = 0",
                "look 5 0 7 = 9");
        t.run("19: \"the entry is r >> 4\": the last entry, 5, to read", six, "store 0 0 2 80 = 0; serve 0 = 0",
                "load 0 1 0 = 0; look 2 0 5 = 0");
        int[] none = {96, 104, 111, 112, -1, -8, -16, -15, Integer.MIN_VALUE, Integer.MIN_VALUE + 8,
            Integer.MIN_VALUE + 24, Integer.MAX_VALUE, Integer.MAX_VALUE - 15, (1 << 30) + 24, (1 << 28) + 24,
            (1 << 8) + 24, (1 << 7) + 24};
        for (int r : none) {
            t.run("19: \"the entry is r >> 4\": there is none such", six,
                    "store 0 0 2 " + r + " = 0; serve 0 = BAD_REF; load 0 0 5 = 4294967291; load 0 0 1 = 1",
                    "load 0 1 0 = 9; look 5 0 0 = 0; look 5 0 7 = 0");
        }
    }

    private static void refusedMaps(Runs t) {
        t.run("19: \"If that is refused, the status is its code\": BAD_REF for a free entry", RING,
                "submit 0 true 0 5 = 0; end 0 1 = 0; serve 0 = BAD_REF; look 5 0 0 = 0; load 0 0 5 = 4294967291",
                "next 0 = 0; reap 0 = FAILED");
        t.run("19: BAD_REF for a TRANSFER entry", RING, "grant 0 1 0 2 = 1; store 0 0 2 24 = 0; store 0 0 0 1 = 0",
                "serve 0 = BAD_REF; store 0 0 3 16 = 0; store 0 0 0 2 = 0; serve 0 = BAD_REF; look 5 0 0 = 0");
        t.run("19: BAD_REF for an entry for another domain", Worlds.THREE, "attach 0 1 = 0; alloc 0 = 1",
                "store 0 1 0 9 = 0; grant 0 2 1 1 = 1; store 0 0 2 24 = 0; store 0 0 0 1 = 0; serve 0 = BAD_REF",
                "look 5 0 0 = 0");
        t.run("19: READ_ONLY to read a sector into a page granted as READ", RING, "submit 0 true 0 5 = 0",
                "store 1 0 2 16 = 0; serve 0 = READ_ONLY; load 0 0 5 = 4294967290; load 0 1 0 = 5; look 2 0 1 = 0",
                "look 3 1 1 = -1");
        t.run("19: \"for writing if it is to read the sector\", else not: WRITE does for both", RING,
                "submit 0 false 1 0 = 0; store 1 0 2 25 = 0; store 0 1 0 6 = 0; serve 0 = 0; look 5 0 1 = 6");
        t.run("19: a refused request is taken all the same", RING, "submit 0 true 0 5 = 0; submit 0 true 1 6 = 1",
                "end 0 1 = 0; serve 0 = BAD_REF; load 0 0 1 = 1; serve 0 = 0; look 5 0 1 = 6; serve 0 = IDLE");
        t.run("19: an entry granted anew in the place of the noted one is served", RING, "submit 0 true 0 5 = 0",
                "end 0 1 = 0; alloc 0 = 2; store 0 2 0 8 = 0; grant 0 1 2 0 = 1; serve 0 = 0; look 5 0 0 = 8",
                "reap 0 = 5; look 1 1 0 = -1; look 1 2 0 = 0");
    }

    private static void roomForTheMapping(Runs t) {
        t.run("19: FULL when the back has no free handle", RING, "submit 0 true 2 5 = 0",
                Worlds.times("map 1 0 1 false", 1, 4), "serve 0 = FULL; load 0 0 5 = 4294967289; load 0 0 1 = 1",
                "look 5 0 2 = 0; look 2 0 1 = 4; next 0 = 0; serve 0 = IDLE; reap 0 = FAILED");
        t.run("19: not when it has one", RING, "submit 0 true 2 5 = 0", Worlds.times("map 1 0 1 false", 1, 3),
                "serve 0 = 0; look 5 0 2 = 5; look 3 1 4 = -1; look 2 0 1 = 3");
        t.run("19: BAD_REF and READ_ONLY before FULL", RING, "submit 0 true 2 5 = 0",
                Worlds.times("map 1 0 1 false", 1, 4), "store 0 0 2 16 = 0; serve 0 = READ_ONLY; store 0 0 0 2 = 0",
                "store 0 0 3 120 = 0; serve 0 = BAD_REF");
        t.run("19: the free handle may be handle 0, the ring handle another", Worlds.TWO, "alloc 0 = 0",
                "grant 0 1 0 0 = 0; map 1 0 0 false = 0; attach 0 1 = 0; unmap 1 0 = 0; submit 0 true 2 5 = 0",
                "serve 0 = 0; look 5 0 2 = 5; look 3 1 0 = -1; look 3 1 1 = 1; submit 0 false 2 0 = 1; serve 0 = 0",
                "look 3 1 0 = -1; load 0 3 0 = 5");
        t.run("19: \"and the MAPPING is taken away\"", RING, "submit 0 true 2 5 = 0; submit 0 false 2 0 = 1",
                "serve 0 = 0; look 2 0 1 = 0; look 3 1 1 = -1; load 1 1 0 = NOT_YOURS; serve 0 = 0; look 2 0 2 = 0",
                "look 3 1 1 = -1; end 0 1 = 0; end 0 2 = 0");
    }

    private static void response(Runs t) {
        for (int taken = 0; taken < 7; taken++) {
            t.run("19: \"It stores the status in word 5 + TAKEN % 3 of the ring page\", TAKEN " + taken, RING,
                    Worlds.rounds(0, taken),
                    "store 1 0 5 61 = 0; store 1 0 6 62 = 0; store 1 0 7 63 = 0; submit 0 true 0 1 = " + taken,
                    "end 0 1 = 0; serve 0 = BAD_REF", "load 0 0 5 = " + (taken % 3 == 0 ? 4294967291L : 61),
                    "load 0 0 6 = " + (taken % 3 == 1 ? 4294967291L : 62),
                    "load 0 0 7 = " + (taken % 3 == 2 ? 4294967291L : 63));
        }
        t.run("19: \"otherwise the status is 0\", whatever stood there", RING, "store 1 0 5 -1 = 0",
                "submit 0 true 0 1 = 0; serve 0 = 0; load 0 0 5 = 0");
        t.run("19: \"TAKEN grows by 1 and is stored in word 1\", whatever stood there", RING, "store 0 0 1 MAX = 0",
                "submit 0 true 0 1 = 0; serve 0 = 0; load 0 0 1 = 1; store 0 0 1 MIN = 0; submit 0 true 0 1 = 1",
                "serve 0 = 0; load 0 0 1 = 2; load 0 0 0 = 2");
        t.run("19: \"it sends on its port\": the front's port is PENDING, the back's stays as it was", RING,
                "submit 0 true 0 1 = 0; next 1 = 0; serve 0 = 0; next 1 = IDLE; next 0 = 0; submit 0 true 0 1 = 1",
                "serve 0 = 0; next 1 = 0; next 0 = 0; next 0 = IDLE");
        t.run("19: sends when the request was refused, too; not when serve was", RING, "serve 0 = IDLE",
                "next 0 = IDLE; submit 0 true 0 1 = 0; end 0 1 = 0; serve 0 = BAD_REF; next 0 = 0; store 0 0 0 9 = 0",
                "serve 0 = BAD_RING; next 0 = IDLE");
        t.same("19: the steps of serve", RING + "; submit 0 true 3 -8 = 0; serve 0 = 0; destroy 1 = 0",
                RING + "; submit 0 true 3 -8 = 0; store 1 0 5 0 = 0; store 1 0 1 1 = 0; destroy 1 = 0");
        t.same("19: the steps of a refused serve",
                RING + "; submit 0 true 3 -8 = 0; store 0 0 2 19 = 0; serve 0 = READ_ONLY; destroy 1 = 0",
                RING + "; submit 0 true 3 -8 = 0; store 0 0 2 19 = 0; store 1 0 5 -6 = 0; store 1 0 1 1 = 0"
                + "; destroy 1 = 0");
    }

    private static void onRingPage(Runs t) {
        t.run("19: a request may name the ring entry: to write, word 0 of the ring page is the sector's", RING,
                "submit 0 true 0 1 = 0; store 0 0 2 15 = 0; serve 0 = 0; look 5 0 7 = 1; load 0 0 0 = 1",
                "load 0 0 1 = 1");
        t.run("19: a request may name the ring entry: to read, the sector goes to word 0", RING, Worlds.rounds(0, 1),
                "submit 0 false 0 1 = 1; store 0 0 3 0 = 0; serve 0 = 0; load 0 0 0 = 7; load 0 0 1 = 2",
                "load 0 0 6 = 0; serve 0 = BAD_RING; reap 0 = 0");
    }
}
