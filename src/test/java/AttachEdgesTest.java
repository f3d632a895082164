/** Promise 17, sentence by sentence: the edges. */
public final class AttachEdgesTest {
    private static final String RING = Worlds.RING;

    private AttachEdgesTest() {
    }

    public static void main(String[] args) {
        Runs t = new Runs();
        attach(t);
        steps(t);
        refused(t);
        fullFront(t);
        fullBack(t);
        order(t);
        t.finish();
    }

    private static void attach(Runs t) {
        t.run("17: \"The least absent device gets the front f and the back b\": first, last, one between",
                Worlds.THREE_DEVICES, "destroy 1 = 0; attach 3 4 = 0; attach 4 3 = 1; attach 3 4 = FULL",
                "destroy 2 = 0; attach 3 4 = 2");
        t.run("17: \"f gets a page as by alloc\": the least free one, wiped", Worlds.TWO, "alloc 1 = 0; alloc 1 = 1",
                "store 1 1 0 9 = 0; store 1 1 7 9 = 0; free 1 1 = 0; attach 0 1 = 0; look 1 1 0 = 0; load 0 1 0 = 0",
                "load 0 1 7 = 0; serve 0 = IDLE; reap 0 = IDLE");
        t.run("17: \"grants it to b as WRITE (the ring entry), b maps that for writing (the ring handle)\"",
                Worlds.THREE, "grant 0 2 0 2 = 0; attach 0 1 = 0; look 2 0 1 = 1; look 3 1 0 = 0; store 1 0 6 5 = 0",
                "load 0 0 6 = 5; map 2 0 1 false = BAD_REF; map 1 0 1 true = 1");
        t.run("17: \"f opens a port for b, and b binds one to it\"", Worlds.THREE, "open 0 2 = 0; open 1 2 = 0",
                "open 1 2 = 1; attach 0 1 = 0; next 0 = IDLE; next 1 = IDLE; send 0 1 = 1; next 1 = 2; send 1 2 = 1",
                "next 0 = 1; bind 1 0 1 = BAD_PORT");
        t.run("17: \"POSTED, REAPED, TAKEN and the DISK's sectors are 0\", also the second time", RING,
                Worlds.rounds(0, 2), "submit 0 true 7 -1 = 2; serve 0 = 0; look 5 0 7 = 4294967295; look 5 0 0 = 7",
                "destroy 1 = 0; create = 1; attach 0 1 = 0; look 6 0 0 = 0; look 5 0 0 = 0; look 5 0 7 = 0",
                "serve 0 = IDLE; reap 0 = IDLE; submit 0 true 0 5 = 0; serve 0 = 0; reap 0 = 5");
        t.run("17: the first and the last domain, and both ways", Worlds.FIVE, "attach 0 4 = 0; attach 4 0 = 1",
                "submit 0 true 0 5 = 0; submit 1 true 0 6 = 0; next 4 = 0; next 0 = 1; serve 1 = 0; serve 0 = 0",
                "reap 0 = 5; reap 1 = 6");
        t.run("17: the same two domains three times", Worlds.TWO, Worlds.times("attach 0 1", 0, 3), "look 4 0 0 = 3",
                "look 3 1 2 = 2; attach 1 0 = FULL");
    }

    /** With the device gone, what is left must be what the single steps leave. */
    private static void steps(Runs t) {
        String steps = Worlds.TWO
                + "; alloc 0 = 0; grant 0 1 0 1 = 0; map 1 0 0 true = 0; open 0 1 = 0; bind 1 0 0 = 0";
        t.same("17: the steps, after the front's death", RING + "; destroy 0 = 0", steps + "; destroy 0 = 0");
        t.same("17: the steps, after the back's death", RING + "; destroy 1 = 0", steps + "; destroy 1 = 0");
        String taken = Worlds.THREE + "; alloc 0 = 0; alloc 1 = 1; grant 0 1 0 0 = 0; map 1 0 0 false = 0"
                + "; open 0 2 = 0; open 1 2 = 0; bind 2 1 0 = 0";
        String laterSteps = taken
                + "; alloc 0 = 2; grant 0 1 2 1 = 1; map 1 0 1 true = 1; open 0 1 = 1; bind 1 0 1 = 1";
        t.same("17: the steps, where something was taken before", taken + "; attach 0 1 = 0; destroy 0 = 0",
                laterSteps + "; destroy 0 = 0");
    }

    private static void refused(Runs t) {
        t.notLive("17: \"BAD_DOMAIN when f ... is not LIVE.\"", "", "attach # 0");
        t.notLive("17: \"BAD_DOMAIN when ... b is not LIVE.\"", "", "attach 0 #");
        for (int d = 0; d < 5; d++) {
            t.run("17: \"BAD_ARGUMENT when f is b.\"", Worlds.FIVE, "attach " + d + " " + d + " = BAD_ARGUMENT");
        }
        t.run("17: \"FULL when no device is absent\", not when one is", Worlds.FIVE, "attach 0 1 = 0; attach 1 2 = 1",
                "attach 2 0 = 2; attach 3 4 = FULL; look 4 3 0 = 0; destroy 0 = 0; attach 3 4 = 0; attach 3 4 = 2",
                "attach 3 4 = FULL");
    }

    private static void fullFront(Runs t) {
        t.run("17: \"one of these steps would answer FULL\": f owns 6 pages, or 5", Worlds.TWO,
                Worlds.allocs(0, 0, 6), "attach 0 1 = FULL; free 0 3 = 0; attach 0 1 = 0; look 1 3 0 = 0",
                "look 4 0 0 = 6; attach 0 1 = FULL");
        t.run("17: that the back owns 6 pages does not matter", Worlds.TWO, Worlds.allocs(1, 0, 6), "attach 0 1 = 0",
                "look 1 6 0 = 0");
        t.run("17: no page is free, or one", Worlds.NO_PAGE_LEFT, "attach 4 3 = FULL; free 3 19 = 0; attach 4 3 = 0",
                "look 1 19 0 = 4; attach 4 3 = FULL");
        t.run("17: f has no free entry, or one", Worlds.TWO, Worlds.times("grant 0 1 0 2", 0, 6), "attach 0 1 = FULL",
                "end 0 4 = 0; attach 0 1 = 0; look 2 0 4 = 1; attach 0 1 = FULL");
        t.run("17: that the back has no free entry does not matter", Worlds.TWO, Worlds.times("grant 1 0 0 2", 0, 6),
                "attach 0 1 = 0; look 2 0 0 = 1");
        t.run("17: f has no closed port, or one", Worlds.THREE, Worlds.times("open 0 2", 0, 4), "attach 0 1 = FULL",
                "bind 2 0 2 = 0; attach 0 1 = FULL; destroy 2 = 0; attach 0 1 = 0; send 0 2 = 1; next 1 = 0",
                "attach 0 1 = FULL");
    }

    private static void fullBack(Runs t) {
        t.run("17: b has no free handle, or one", Worlds.TWO, "alloc 0 = 0; grant 0 1 0 0 = 0",
                Worlds.times("map 1 0 0 false", 0, 5), "attach 0 1 = FULL; unmap 1 3 = 0; attach 0 1 = 0",
                "look 3 1 3 = 1; attach 0 1 = FULL; look 4 0 0 = 2");
        t.run("17: that the front has no free handle does not matter", Worlds.TWO, "alloc 1 = 0; grant 1 0 0 0 = 0",
                Worlds.times("map 0 1 0 false", 0, 5), "attach 0 1 = 0");
        t.run("17: b has no closed port, or one", Worlds.THREE, Worlds.times("open 1 2", 0, 4), "attach 0 1 = FULL",
                "bind 2 1 1 = 0; attach 0 1 = FULL; destroy 2 = 0; attach 0 1 = 0; send 0 0 = 1; next 1 = 1",
                "attach 0 1 = FULL");
        t.run("17: a port of b that WAITS for f is not the one that is bound", Worlds.TWO, "open 1 0 = 0",
                "attach 0 1 = 0; send 0 0 = 1; next 1 = 1; bind 0 1 0 = 1");
    }

    private static void order(Runs t) {
        t.run("17: BAD_DOMAIN before BAD_ARGUMENT", Worlds.FADING, "attach 3 3 = BAD_DOMAIN; attach 4 4 = BAD_DOMAIN",
                "attach 5 5 = BAD_DOMAIN; attach -1 -1 = BAD_DOMAIN");
        t.run("17: BAD_DOMAIN before FULL: no device is absent", Worlds.THREE_DEVICES, "destroy 4 = 0",
                "attach 0 4 = BAD_DOMAIN; attach 4 0 = BAD_DOMAIN; attach 0 5 = BAD_DOMAIN",
                "attach -1 0 = BAD_DOMAIN");
        t.run("17: BAD_DOMAIN before FULL: DYING with 6 pages", Worlds.FADING_WITH_SIX, "attach 0 1 = BAD_DOMAIN",
                "attach 0 2 = BAD_DOMAIN; attach 2 0 = BAD_DOMAIN");
        t.run("17: BAD_ARGUMENT before FULL: no device is absent, six pages", Worlds.THREE_DEVICES,
                "attach 0 0 = BAD_ARGUMENT; attach 3 3 = BAD_ARGUMENT");
        t.run("17: BAD_ARGUMENT before FULL: a step would answer FULL", Worlds.TWO, Worlds.allocs(0, 0, 6),
                "attach 0 0 = BAD_ARGUMENT; attach 0 1 = FULL");
    }
}
