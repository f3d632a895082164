/** Promises 1 to 3, sentence by sentence: the edges. */
public final class DomainEdgesTest {
    private DomainEdgesTest() {
    }

    public static void main(String[] args) {
        Runs t = new Runs();
        newObject(t);
        create(t);
        createFull(t);
        destroyRefused(t);
        destroyDevices(t);
        destroyMappings(t);
        destroyPorts(t);
        destroyEntriesAndPages(t);
        dyingOrNone(t);
        t.finish();
    }

    private static void newObject(Runs t) {
        t.run("1: \"All domains are NONE\": no call finds one that is LIVE", "destroy 0 = BAD_DOMAIN",
                "destroy 4 = BAD_DOMAIN; alloc 0 = BAD_DOMAIN; alloc 4 = BAD_DOMAIN; free 0 0 = BAD_DOMAIN",
                "grant 0 1 0 2 = BAD_DOMAIN; end 0 0 = BAD_DOMAIN; map 0 1 0 false = BAD_DOMAIN",
                "unmap 0 0 = BAD_DOMAIN; give 0 0 1 0 = BAD_DOMAIN; store 0 0 0 1 = BAD_DOMAIN",
                "load 0 0 0 = BAD_DOMAIN; open 0 1 = BAD_DOMAIN; bind 0 1 0 = BAD_DOMAIN; send 0 0 = BAD_DOMAIN",
                "next 0 = BAD_DOMAIN; attach 0 1 = BAD_DOMAIN");
        t.run("1: \"all pages free\": the first and the last", "look 1 0 0 = -1; look 1 19 0 = -1", Worlds.FIVE,
                Worlds.allocs(0, 0, 6), Worlds.allocs(1, 6, 6), Worlds.allocs(2, 12, 6), Worlds.allocs(3, 18, 2));
        t.run("1: \"all devices absent\"", "look 6 0 0 = -1; look 6 1 0 = -1; look 6 2 0 = -1",
                "submit 0 true 0 0 = NO_DEVICE; serve 1 = NO_DEVICE; reap 2 = NO_DEVICE; reap 0 = NO_DEVICE",
                Worlds.TWO, Worlds.times("attach 0 1", 0, 3));
    }

    private static void create(Runs t) {
        t.run("2: \"The least domain that is NONE becomes LIVE\": the first and the last", "create = 0",
                "look 0 0 0 = 1; look 0 1 0 = 0; create = 1; create = 2; create = 3; look 0 4 0 = 0; create = 4",
                "look 0 4 0 = 1; alloc 4 = 0");
        t.run("2: \"The least domain that is NONE\": not the one that died last", Worlds.FIVE, "destroy 1 = 0",
                "destroy 4 = 0; destroy 3 = 0; create = 1; create = 3; create = 4");
        String fullLife = Worlds.TWO + ";" + Worlds.allocs(0, 0, 6) + ";" + Worlds.times("grant 0 1 0 2", 0, 6)
                + "; alloc 1 = 6; grant 1 0 6 1 = 0;" + Worlds.times("map 0 1 0 true", 0, 5)
                + ";" + Worlds.times("open 0 1", 0, 4) + "; bind 1 0 2 = 0; send 1 0 = 1; destroy 0 = 0; create = 0";
        t.run("2: \"with free entries\", all six", fullLife, Worlds.times("grant 0 1 0 2", 0, 6),
                "grant 0 1 0 2 = FULL");
        t.run("2: \"free handles\", all five", fullLife, Worlds.times("map 0 1 0 true", 0, 5),
                "map 0 1 0 true = FULL");
        t.run("2: \"closed ports\", all four", fullLife, "next 0 = IDLE; bind 1 0 0 = BAD_PORT; send 0 2 = BAD_PORT",
                Worlds.times("open 0 1", 0, 4), "open 0 1 = FULL");
        t.run("2: \"and no page\"", fullLife, "look 4 0 0 = 0; load 0 0 0 = NOT_YOURS", Worlds.allocs(0, 0, 6),
                "alloc 0 = FULL");
        t.same("2: as new as one that never had anything", fullLife,
                Worlds.TWO + ";" + Worlds.allocs(0, 0, 6) + "; alloc 1 = 6; grant 1 0 6 1 = 0; free 0 0 = 0"
                + "; free 0 1 = 0; free 0 2 = 0; free 0 3 = 0; free 0 4 = 0; free 0 5 = 0");
    }

    private static void createFull(Runs t) {
        t.run("2: \"FULL when none is NONE\": five LIVE", Worlds.FIVE, "create = FULL");
        t.run("2: FULL: four LIVE and one place left", Worlds.creates(4), "create = 4; create = FULL");
        t.run("2: FULL: a DYING domain is not NONE", Worlds.FADING, "create = 4; create = FULL; unmap 2 0 = 0",
                "create = 3; create = FULL");
    }

    private static void destroyRefused(Runs t) {
        t.notLive("3: \"BAD_DOMAIN when it is not LIVE.\"", "", "destroy #");
        t.run("3: the first and the last domain die", Worlds.FIVE, "destroy 0 = 0; destroy 4 = 0; look 0 0 0 = 0",
                "look 0 4 0 = 0; destroy 0 = BAD_DOMAIN; destroy 4 = BAD_DOMAIN");
        t.run("3: the last LIVE domain dies, too", "create = 0; destroy 0 = 0; look 0 0 0 = 0; create = 0");
    }

    private static void destroyDevices(Runs t) {
        String three = Worlds.THREE + "; attach 0 1 = 0; attach 1 2 = 1; attach 2 0 = 2";
        t.run("3: \"every device that has it as front or back becomes absent\", 0", three, "destroy 0 = 0",
                "look 6 0 0 = -1; look 6 1 0 = 0; look 6 2 0 = -1; serve 0 = NO_DEVICE; serve 1 = IDLE",
                "serve 2 = NO_DEVICE");
        t.run("3: \"every device that has it as front or back becomes absent\", 1", three, "destroy 1 = 0",
                "look 6 0 0 = -1; look 6 1 0 = -1; look 6 2 0 = 0; reap 0 = NO_DEVICE; reap 1 = NO_DEVICE",
                "reap 2 = IDLE");
        t.run("3: \"every device that has it as front or back becomes absent\", 2", three, "destroy 2 = 0",
                "look 6 0 0 = 0; look 6 1 0 = -1; look 6 2 0 = -1; submit 1 true 0 0 = NO_DEVICE",
                "submit 2 true 0 0 = NO_DEVICE; submit 0 true 0 5 = 0");
        t.run("3: a device stays absent when its domain is created again", Worlds.RING, "destroy 1 = 0; create = 1",
                "serve 0 = NO_DEVICE; map 1 0 0 true = 0; serve 0 = NO_DEVICE; look 6 0 0 = -1; look 5 0 0 = -1");
        t.run("3: a BROKEN device becomes absent, too", Worlds.RING, "unmap 1 0 = 0; destroy 1 = 0",
                "serve 0 = NO_DEVICE; attach 0 1 = BAD_DOMAIN; create = 1; attach 0 1 = 0; look 3 1 0 = 1",
                "serve 0 = IDLE");
    }

    private static void destroyMappings(Runs t) {
        t.run("3: \"its MAPPINGS are taken away\", all five of them", Worlds.TWO, "alloc 0 = 0; grant 0 1 0 0 = 0",
                Worlds.times("map 1 0 0 false", 0, 5), "look 2 0 0 = 5; destroy 1 = 0; look 2 0 0 = 0; end 0 0 = 0",
                "free 0 0 = 0; look 3 1 0 = -1; look 3 1 4 = -1");
        t.run("3: entries of LIVE domains that lose their MAPPINGS so stay", Worlds.TWO, "alloc 0 = 0",
                "grant 0 1 0 0 = 0; map 1 0 0 false = 0; destroy 1 = 0; look 2 0 0 = 0; look 0 0 0 = 1",
                "look 1 0 0 = 0; free 0 0 = BUSY");
        t.run("3: \"(with RELEASE for other domains that are DYING)\", at the first and the last handle", Worlds.FIVE,
                "alloc 0 = 0; alloc 1 = 1; alloc 2 = 2; grant 0 3 0 0 = 0; grant 1 3 1 0 = 0; grant 2 3 2 0 = 0",
                "map 3 0 0 false = 0; map 3 2 0 false = 1; map 3 2 0 false = 2; map 3 2 0 false = 3",
                "map 3 1 0 false = 4; destroy 0 = 0; destroy 1 = 0; look 0 0 0 = 2; look 0 1 0 = 2; destroy 3 = 0",
                "look 0 0 0 = 0; look 0 1 0 = 0; look 0 2 0 = 1; look 2 2 0 = 0; look 1 0 0 = -1; look 1 1 0 = -1",
                "look 1 2 0 = 2");
        t.run("3: RELEASE only where the last MAPPING goes", Worlds.THREE, "alloc 0 = 0; grant 0 1 0 0 = 0",
                "grant 0 2 0 0 = 1; map 1 0 0 false = 0; map 2 0 1 false = 0; destroy 0 = 0; destroy 1 = 0",
                "look 0 0 0 = 2; look 2 0 0 = -1; look 2 0 1 = 1; look 1 0 0 = 0; destroy 2 = 0; look 0 0 0 = 0");
    }

    private static void destroyPorts(Runs t) {
        String four = Worlds.FIVE + ";" + Worlds.times("open 0 1", 0, 3)
                + "; open 0 2 = 3; bind 1 0 0 = 0; bind 1 0 1 = 1; bind 2 0 3 = 0;"
                + "open 1 0 = 2; bind 0 1 2 = FULL";
        t.run("3: \"its ports are closed\", JOINED and WAITING ones, all four", four, "destroy 0 = 0; create = 0",
                "send 0 0 = BAD_PORT; send 0 3 = BAD_PORT; bind 1 0 2 = BAD_PORT", Worlds.times("open 0 4", 0, 4),
                "open 0 4 = FULL");
        t.run("3: \"and so are those JOINED to them\"", four, "destroy 0 = 0; send 1 0 = BAD_PORT",
                "send 1 1 = BAD_PORT; send 2 0 = BAD_PORT; open 1 3 = 0; open 1 3 = 1; open 1 3 = 3; open 1 3 = FULL",
                Worlds.times("open 2 3", 0, 4));
        t.run("3: \"no more PENDING\", and not so when they are used again", four, "send 0 0 = 1; send 0 1 = 1",
                "send 0 3 = 1; destroy 0 = 0; next 1 = IDLE; next 2 = IDLE; open 3 1 = 0; bind 1 3 0 = 0",
                "next 1 = IDLE; send 3 0 = 1; next 1 = 0");
        t.run("3: ports JOINED to others stay, PENDING or not", Worlds.THREE, "open 0 1 = 0; bind 1 0 0 = 0",
                "open 1 2 = 1; bind 2 1 1 = 0; send 1 1 = 1; send 2 0 = 1; destroy 0 = 0; next 2 = 0; next 1 = 1",
                "send 1 1 = 1; send 2 0 = 1; send 1 0 = BAD_PORT");
        t.run("3: \"(Ports of others that are WAITING for it stay so.)\"", Worlds.THREE,
                Worlds.times("open 1 0", 0, 4), "open 2 0 = 0; destroy 0 = 0; open 1 0 = FULL; create = 0",
                "bind 0 1 3 = 0; bind 0 1 0 = 1; bind 0 2 0 = 2; send 1 3 = 1; next 0 = 0");
        t.run("3: ports that WAIT for it stay so while it is DYING", Worlds.FADING, "open 1 3 = 0; unmap 2 0 = 0",
                "create = 3; bind 3 1 0 = 0");
    }

    private static void destroyEntriesAndPages(Runs t) {
        t.run("3: \"its entries that are not MAPPED become free\", the first and the last", Worlds.TWO, "alloc 0 = 0",
                "grant 0 1 0 0 = 0; grant 0 1 0 1 = 1; grant 0 1 0 2 = 2; grant 0 1 0 0 = 3; grant 0 1 0 0 = 4",
                "grant 0 1 0 0 = 5; map 1 0 1 true = 0; map 1 0 4 false = 1; destroy 0 = 0; look 2 0 0 = -1",
                "look 2 0 1 = 1; look 2 0 2 = -1; look 2 0 3 = -1; look 2 0 4 = 1; look 2 0 5 = -1");
        t.run("3: the first and the last entry stay when they are MAPPED", Worlds.TWO, "alloc 0 = 0",
                Worlds.times("grant 0 1 0 0", 0, 6), "map 1 0 0 false = 0; map 1 0 5 false = 1; destroy 0 = 0",
                "look 2 0 0 = 1; look 2 0 4 = -1; look 2 0 5 = 1");
        t.run("3: \"those of its pages that no MAPPED entry of it has become free\"", Worlds.TWO,
                Worlds.allocs(0, 0, 3), "grant 0 1 0 0 = 0; grant 0 1 1 0 = 1; map 1 0 1 false = 0; destroy 0 = 0",
                "look 1 0 0 = -1; look 1 1 0 = 0; look 1 2 0 = -1; look 4 0 0 = 1");
        t.run("3: pages of others stay", Worlds.THREE, "alloc 0 = 0; alloc 1 = 1; alloc 0 = 2; destroy 0 = 0",
                "look 1 0 0 = -1; look 1 1 0 = 1; look 1 2 0 = -1");
        t.run("3: entries of others with it as target stay", Worlds.TWO, "alloc 1 = 0; grant 1 0 0 1 = 0",
                "grant 1 0 0 2 = 1; destroy 0 = 0; look 2 1 0 = 0; look 2 1 1 = 0; create = 0; map 0 1 0 true = 0",
                "alloc 0 = 1; give 0 1 1 1 = 0");
        t.run("3: a page that it had only mapped stays its owner's", Worlds.TWO, "alloc 0 = 0; grant 0 1 0 1 = 0",
                "map 1 0 0 true = 0; store 1 0 2 5 = 0; destroy 1 = 0; look 1 0 0 = 0; load 0 0 2 = 5",
                "look 0 1 0 = 0");
    }

    private static void dyingOrNone(Runs t) {
        t.run("3: \"DYING while it owns a page\": one page, and none", Worlds.TWO, "alloc 0 = 0; alloc 0 = 1",
                "grant 0 1 1 0 = 0; map 1 0 0 false = 0; destroy 0 = 0; look 0 0 0 = 2; look 4 0 0 = 1",
                "unmap 1 0 = 0; look 0 0 0 = 0; look 4 0 0 = 0");
        t.run("3: \"otherwise NONE\": without pages, entries, handles and ports", Worlds.TWO, "destroy 1 = 0",
                "look 0 1 0 = 0; create = 1");
        t.run("3: \"otherwise NONE\": with a page whose entry was MAPPED once", Worlds.TWO, "alloc 0 = 0",
                "grant 0 1 0 0 = 0; map 1 0 0 false = 0; unmap 1 0 = 0; destroy 0 = 0; look 0 0 0 = 0",
                "look 1 0 0 = -1");
        t.run("3: \"otherwise NONE\": with a TRANSFER entry", Worlds.TWO, "grant 0 1 0 2 = 0; destroy 0 = 0",
                "look 0 0 0 = 0; look 2 0 0 = -1");
        t.run("3: DYING with all of its six pages", Worlds.FADING_WITH_SIX, "look 0 0 0 = 2; look 4 0 0 = 6",
                "load 1 4 7 = 0; load 2 5 7 = 0; destroy 2 = 0; look 4 0 0 = 5; look 0 0 0 = 2; destroy 1 = 0",
                "look 4 0 0 = 0; look 0 0 0 = 0");
    }
}
