/** Promise 21, sentence by sentence: the edges. */
public final class LookEdgesTest {
    /** The last of everything tells something: domain 4, page 19, entry 5, handle 4, device 2, sector 7. */
    private static final String FULL_WORLD = Worlds.FIVE + ";" + Worlds.times("attach 0 1", 0, 3)
            + "; submit 2 true 7 -5 = 0; serve 2 = 0;" + Worlds.allocs(0, 4, 2) + ";" + Worlds.allocs(1, 6, 6) + ";"
            + Worlds.allocs(2, 12, 6) + "; alloc 3 = 18; alloc 4 = 19;" + Worlds.times("grant 4 3 19 0", 0, 6)
            + "; map 3 4 5 false = 0; map 3 4 5 false = 1; map 3 4 0 false = 2; grant 3 4 18 0 = 0;"
            + Worlds.times("map 4 3 0 false", 0, 5);

    private LookEdgesTest() {
    }

    public static void main(String[] args) {
        Runs t = new Runs();
        firstAndLast(t);
        outOfRange(t);
        notLookedAt(t);
        nothingToBeTold(t);
        withoutSign(t);
        underWay(t);
        t.finish();
    }

    private static void firstAndLast(Runs t) {
        t.run("21: \"domain a\", the first and the last", FULL_WORLD, "look 0 0 0 = 1; look 0 4 0 = 1");
        t.run("21: \"0 NONE, 1 LIVE, 2 DYING\"", Worlds.FADING, "look 0 4 0 = 0; look 0 0 0 = 1; look 0 3 0 = 2");
        t.run("21: \"the owner of page a\", the first and the last", FULL_WORLD, "look 1 0 0 = 0; look 1 19 0 = 4",
                "look 1 18 0 = 3");
        t.run("21: \"the owner of page a\", a DYING one", Worlds.FADING, "look 1 0 0 = 3");
        t.run("21: \"how many MAPPINGS entry b of domain a has\", the first and the last", FULL_WORLD,
                "look 2 0 0 = 1; look 2 4 5 = 2; look 2 4 0 = 1; look 2 4 4 = 0; look 2 3 0 = 5");
        t.run("21: \"how many MAPPINGS\", of a DYING domain's entry", Worlds.FADING, "look 2 3 0 = 1");
        t.run("21: \"how many MAPPINGS\", as many as there can be", Worlds.TWO, "alloc 0 = 0; grant 0 1 0 0 = 0",
                Worlds.times("map 1 0 0 false", 0, 5), "look 2 0 0 = 5; map 1 0 0 false = FULL; look 2 0 0 = 5");
        t.run("21: \"the page of the MAPPING at handle b of domain a\", the first and the last", FULL_WORLD,
                "look 3 4 0 = 18; look 3 4 4 = 18; look 3 3 1 = 19; look 3 1 0 = 0; look 3 1 2 = 2");
        t.run("21: \"how many pages domain a owns\", the first and the last, 0 to 6", FULL_WORLD, "look 4 0 0 = 6",
                "look 4 1 0 = 6; look 4 4 0 = 1");
        t.run("21: \"how many pages domain a owns\": NONE, DYING, LIVE", Worlds.FADING, "look 4 4 0 = 0",
                "look 4 3 0 = 1; look 4 2 0 = 0");
        t.run("21: \"sector b of device a\", the first and the last", FULL_WORLD, "look 5 2 7 = 4294967291",
                "look 5 2 0 = 0; look 5 0 7 = 0; look 5 0 0 = 0");
        t.run("21: \"POSTED - REAPED of device a\", the first and the last", FULL_WORLD, "look 6 0 0 = 0",
                "look 6 2 0 = 1");
    }

    private static void outOfRange(Runs t) {
        int[] counts = {5, 20, 5, 5, 5, 3, 3};
        for (int what = 0; what < 7; what++) {
            t.outside("21: \"a number out of range\", a of what " + what, -1, counts[what], FULL_WORLD,
                    "look " + what + " # 0 = -1");
        }
        t.outside("21: \"a number out of range\", entry b", -1, 6, FULL_WORLD, "look 2 4 # = -1");
        t.outside("21: \"a number out of range\", handle b", -1, 5, FULL_WORLD, "look 3 4 # = -1");
        t.outside("21: \"a number out of range\", sector b", -1, 8, FULL_WORLD, "look 5 2 # = -1");
        t.outside("21: \"or another what\"", -1, 7, FULL_WORLD, "look # 0 0 = -1");
    }

    private static void notLookedAt(Runs t) {
        int[] dues = {1, 4, 0, 0, 1, 0, 1};
        int[] as = {4, 19, 0, 0, 4, 0, 2};
        for (int what : new int[] {0, 1, 4, 6}) {
            t.outside("21: \"(b is looked at for 2, 3 and 5 alone.)\", what " + what, -1, 99, FULL_WORLD,
                    "look " + what + " " + as[what] + " # = " + dues[what]);
        }
        t.run("21: b is looked at for 2, 3 and 5", FULL_WORLD, "look 2 4 5 = 2; look 2 4 0 = 1; look 3 3 0 = 19",
                "look 3 3 3 = -1; look 5 2 7 = 4294967291; look 5 2 6 = 0");
    }

    private static void nothingToBeTold(Runs t) {
        t.run("21: \"a page ... that is free\"", Worlds.ONE_PAGE_LEFT, "look 1 19 0 = -1; free 0 0 = 0",
                "look 1 0 0 = -1; look 1 18 0 = 3");
        t.run("21: \"an entry ... that is free\": never granted, ended, of a domain that is NONE", Worlds.FADING,
                "alloc 0 = 1; grant 0 1 1 0 = 0; look 2 0 1 = -1; look 2 0 5 = -1; end 0 0 = 0; look 2 0 0 = -1",
                "look 2 4 0 = -1; look 2 3 1 = -1");
        t.run("21: an entry that is not free has 0 MAPPINGS or more", Worlds.TWO, "alloc 0 = 0; grant 0 1 0 0 = 0",
                "grant 0 1 0 1 = 1; grant 0 1 0 2 = 2; look 2 0 0 = 0; look 2 0 1 = 0; look 2 0 2 = 0");
        t.run("21: \"a handle that is free\": never used, used once, of a domain that is DYING or NONE",
                Worlds.FADING, "look 3 0 0 = -1; look 3 2 1 = -1; look 3 3 0 = -1; look 3 4 0 = -1; look 3 2 0 = 0",
                "unmap 2 0 = 0; look 3 2 0 = -1");
        t.run("21: \"a device that is absent\": never attached, or no more", Worlds.RING, "look 5 1 0 = -1",
                "look 6 1 0 = -1; look 5 2 7 = -1; look 6 2 0 = -1; look 5 0 0 = 0; look 6 0 0 = 0; destroy 0 = 0",
                "look 5 0 0 = -1; look 6 0 0 = -1");
        t.run("21: a BROKEN device is not absent", Worlds.RING, "submit 0 true 2 -1 = 0; serve 0 = 0; unmap 1 0 = 0",
                "look 5 0 2 = 4294967295; look 6 0 0 = 1");
    }

    private static void withoutSign(Runs t) {
        int[] values = {0, 1, Integer.MAX_VALUE, Integer.MIN_VALUE, Integer.MIN_VALUE + 1, -2, -1};
        for (int v : values) {
            t.run("21: \"sector b of device a as a number without sign\"", Worlds.RING,
                    "submit 0 true 0 " + v + " = 0; serve 0 = 0; submit 0 true 7 " + v + " = 1; serve 0 = 0",
                    "look 5 0 0 = " + (v & 0xFFFFFFFFL), "look 5 0 7 = " + (v & 0xFFFFFFFFL));
        }
    }

    private static void underWay(Runs t) {
        t.run("21: \"POSTED - REAPED\": 0 to 3 and back", Worlds.RING, "look 6 0 0 = 0; submit 0 true 0 5 = 0",
                "look 6 0 0 = 1; submit 0 true 0 5 = 1; look 6 0 0 = 2; submit 0 true 0 5 = 2; look 6 0 0 = 3",
                "submit 0 true 0 5 = FULL; look 6 0 0 = 3; serve 0 = 0; serve 0 = 0; serve 0 = 0; look 6 0 0 = 3",
                "reap 0 = 5; look 6 0 0 = 2; reap 0 = 5; look 6 0 0 = 1; reap 0 = 5; look 6 0 0 = 0");
        t.run("21: \"POSTED - REAPED\", not what the ring's words say", Worlds.RING, "submit 0 true 0 5 = 0",
                "store 1 0 0 9 = 0; store 1 0 1 -9 = 0; look 6 0 0 = 1");
    }
}
