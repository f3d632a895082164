/** Promise 18, sentence by sentence: the edges. */
public final class SubmitEdgesTest {
    private static final String RING = Worlds.RING;
    private static final String THREE_UNDER_WAY = RING + ";" + Worlds.times("submit 0 true 0 1", 0, 3);

    private SubmitEdgesTest() {
    }

    public static void main(String[] args) {
        Runs t = new Runs();
        submit(t);
        steps(t);
        refused(t);
        full(t);
        order(t);
        t.finish();
    }

    private static void submit(Runs t) {
        for (int sector = 0; sector < 8; sector++) {
            t.run("18: \"stores sector + 8 (if it is to write) + 16 * entry\", sector " + sector, RING,
                    "submit 0 true " + sector + " 5 = 0; load 1 0 2 = " + (sector + 8 + 16),
                    "submit 0 false " + sector + " 5 = 1; load 1 0 3 = " + (sector + 32));
        }
        t.run("18: \"16 * entry\": entry 5", RING, Worlds.times("grant 0 1 0 2", 1, 4), "submit 0 true 7 1 = 0",
                "look 2 0 5 = 0; load 1 0 2 = 95");
        t.run("18: \"16 * entry\": entry 0", Worlds.TWO, "grant 0 1 0 2 = 0; attach 0 1 = 0; end 0 0 = 0",
                "submit 0 true 3 1 = 0; load 1 0 2 = 11; submit 0 false 3 1 = 1; load 1 0 3 = 35");
        t.run("18: \"stores v in word 0 of it if it is to write\": 0, -1 and the ends of int", RING,
                "submit 0 true 0 MIN = 0; load 0 1 0 = 2147483648; submit 0 true 0 MAX = 1; load 0 2 0 = 2147483647",
                "submit 0 true 0 -1 = 2; load 0 3 0 = 4294967295; load 0 3 1 = 0");
        t.run("18: if it is to read, v is not looked at", RING, "submit 0 false 0 MIN = 0; submit 0 false 0 MAX = 1",
                "submit 0 false 0 -1 = 2; load 0 1 0 = 0; load 0 2 0 = 0; load 0 3 0 = 0");
        t.run("18: \"as READ if it is to write, as WRITE if it is to read\", to the back alone", Worlds.THREE,
                "attach 0 1 = 0; submit 0 true 0 1 = 0; submit 0 false 0 1 = 1; map 1 0 1 true = READ_ONLY",
                "map 1 0 1 false = 1; map 1 0 2 true = 2; map 2 0 1 false = BAD_REF; map 2 0 2 false = BAD_REF");
        t.run("18: \"notes page and entry as those of request number POSTED\"", Worlds.TWO, "alloc 0 = 0",
                "grant 0 1 0 0 = 0; attach 0 1 = 0; free 0 0 = BUSY; submit 0 true 0 5 = 0; end 0 0 = 0",
                "submit 0 true 0 6 = 1; look 2 0 2 = 0; look 2 0 0 = 0; serve 0 = 0; serve 0 = 0; reap 0 = 5",
                "look 2 0 2 = -1; look 2 0 0 = 0; reap 0 = 6; look 2 0 0 = -1");
        t.run("18: \"Answers the request's number.\", past 3", RING, Worlds.rounds(0, 4), "submit 0 false 0 1 = 4",
                "submit 0 true 0 1 = 5; submit 0 true 0 1 = 6; load 0 0 0 = 7");
        t.run("18: \"it sends on its port\": the back's port is PENDING, the front's is not", RING,
                "submit 0 true 0 1 = 0; next 0 = IDLE; next 1 = 0; submit 0 false 0 1 = 1; next 1 = 0",
                "next 1 = IDLE");
    }

    private static void steps(Runs t) {
        t.run("18: POSTED \"is stored in word 0\", whatever stood there", RING, "store 1 0 0 MIN = 0",
                "submit 0 true 0 1 = 0; load 1 0 0 = 1; store 1 0 0 MAX = 0; submit 0 true 0 1 = 1; load 1 0 0 = 2",
                "store 1 0 2 0 = 0; store 1 0 3 0 = 0; submit 0 true 6 1 = 2; load 1 0 2 = 0; load 1 0 3 = 0",
                "load 1 0 4 = 62");
        String byHand = RING
                + "; alloc 0 = 1; store 0 1 0 -8 = 0; grant 0 1 1 0 = 1; store 0 0 2 27 = 0; store 0 0 0 1 = 0";
        t.same("18: the steps of a request to write", RING + "; submit 0 true 3 -8 = 0; destroy 1 = 0",
                byHand + "; destroy 1 = 0");
        String read = RING + "; alloc 0 = 1; grant 0 1 1 1 = 1; store 0 0 2 19 = 0; store 0 0 0 1 = 0; destroy 0 = 0";
        t.same("18: the steps of a request to read", RING + "; submit 0 false 3 -8 = 0; destroy 0 = 0", read);
        t.run("18: a request put in by the front's own hand is served, too", byHand, "serve 0 = 0",
                "look 5 0 3 = 4294967288; next 1 = IDLE; next 0 = 0; load 0 0 1 = 1");
        t.run("18: but POSTED grows by submit alone", byHand, "look 6 0 0 = 0; submit 0 true 3 1 = 0; load 0 0 0 = 1",
                "look 6 0 0 = 1");
    }

    private static void refused(Runs t) {
        t.outside("18: \"NO_DEVICE when the device is ... none of 0 .. 2.\"", -1, 3, Worlds.THREE_DEVICES,
                "submit # true 0 0 = NO_DEVICE");
        t.run("18: \"NO_DEVICE when the device is absent\": never attached, or no more", Worlds.THREE_DEVICES,
                "destroy 0 = 0; submit 0 true 0 0 = NO_DEVICE; submit 2 false 0 0 = NO_DEVICE",
                "submit 1 true 0 0 = 0");
        t.run("18: the first and the last device", Worlds.THREE_DEVICES, "submit 0 true 0 0 = 0",
                "submit 2 true 0 0 = 0; look 6 0 0 = 1; look 6 1 0 = 0; look 6 2 0 = 1");
        t.run("18: \"BROKEN when the device is BROKEN.\"", RING, "unmap 1 0 = 0; submit 0 true 0 0 = BROKEN",
                "submit 0 false 7 0 = BROKEN; map 1 0 0 true = 0; submit 0 true 0 0 = 0");
        t.outside("18: \"BAD_ARGUMENT when sector is not 0 .. 7.\", to write", -1, 8, RING,
                "submit 0 true # 0 = BAD_ARGUMENT");
        t.outside("18: \"BAD_ARGUMENT when sector is not 0 .. 7.\", to read", -1, 8, RING,
                "submit 0 false # 0 = BAD_ARGUMENT");
    }

    private static void full(Runs t) {
        t.run("18: \"FULL when POSTED - REAPED is 3\", not when it is 2", THREE_UNDER_WAY, "submit 0 true 0 1 = FULL",
                "submit 0 false 0 1 = FULL; serve 0 = 0; submit 0 true 0 1 = FULL; look 6 0 0 = 3; reap 0 = 1",
                "look 6 0 0 = 2; submit 0 true 0 1 = 3; submit 0 true 0 1 = FULL");
        t.run("18: \"POSTED - REAPED is 3\" with numbers past 3", RING, Worlds.rounds(0, 5),
                Worlds.times("submit 0 true 0 1", 5, 3), "submit 0 true 0 1 = FULL; serve 0 = 0; reap 0 = 1",
                "submit 0 true 0 1 = 8; submit 0 true 0 1 = FULL");
        t.run("18: FULL though the request was served, as long as it is not reaped", THREE_UNDER_WAY, "serve 0 = 0",
                "serve 0 = 0; serve 0 = 0; submit 0 true 0 1 = FULL");
        t.run("18: \"alloc ... would answer FULL\": 6 pages, or 5", RING, Worlds.allocs(0, 1, 5),
                "submit 0 true 0 1 = FULL; submit 0 false 0 1 = FULL; free 0 2 = 0; submit 0 true 0 1 = 0",
                "look 1 2 0 = 0; submit 0 true 0 1 = FULL");
        t.run("18: \"alloc ... would answer FULL\": no page free, or one", Worlds.FIVE, "attach 4 0 = 0",
                Worlds.allocs(0, 1, 6), Worlds.allocs(1, 7, 6), Worlds.allocs(2, 13, 6), "submit 0 true 0 1 = 0",
                "look 1 19 0 = 4; submit 0 true 0 1 = FULL; submit 0 false 0 1 = FULL; look 6 0 0 = 1; free 2 18 = 0",
                "submit 0 false 0 1 = 1");
        t.run("18: \"grant would answer FULL\": no entry free, or one", RING, Worlds.times("grant 0 1 0 2", 1, 5),
                "submit 0 true 0 1 = FULL; submit 0 false 0 1 = FULL; look 4 0 0 = 1; end 0 2 = 0",
                "submit 0 true 0 1 = 0; look 2 0 2 = 0; look 4 0 0 = 2; submit 0 true 0 1 = FULL; look 4 0 0 = 2");
    }

    private static void order(Runs t) {
        t.run("18: NO_DEVICE before BROKEN: an absent device's ring is not mapped either", RING, "unmap 1 0 = 0",
                "destroy 1 = 0; submit 0 true 0 0 = NO_DEVICE");
        t.run("18: NO_DEVICE before BAD_ARGUMENT", RING, "submit 1 true 8 0 = NO_DEVICE",
                "submit 3 true -1 0 = NO_DEVICE; submit -1 false 8 0 = NO_DEVICE");
        t.run("18: NO_DEVICE before FULL", THREE_UNDER_WAY, "destroy 1 = 0; submit 0 true 0 0 = NO_DEVICE",
                "create = 1; submit 0 true 0 0 = NO_DEVICE");
        t.run("18: BROKEN before BAD_ARGUMENT", RING, "unmap 1 0 = 0; submit 0 true 8 0 = BROKEN",
                "submit 0 false -1 0 = BROKEN");
        t.run("18: BROKEN before FULL", THREE_UNDER_WAY, "unmap 1 0 = 0; submit 0 true 0 0 = BROKEN");
        t.run("18: BROKEN before FULL: pages", RING, Worlds.allocs(0, 1, 5), "unmap 1 0 = 0",
                "submit 0 true 0 0 = BROKEN");
        t.run("18: BAD_ARGUMENT before FULL: three under way", THREE_UNDER_WAY, "submit 0 true 8 0 = BAD_ARGUMENT",
                "submit 0 false -1 0 = BAD_ARGUMENT; submit 0 true 0 0 = FULL");
        t.run("18: BAD_ARGUMENT before FULL: pages, entries", RING, Worlds.allocs(0, 1, 5),
                Worlds.times("grant 0 1 0 2", 1, 5), "submit 0 true 8 0 = BAD_ARGUMENT",
                "submit 0 true MIN 0 = BAD_ARGUMENT; submit 0 true 0 0 = FULL");
    }
}
