/** Promises 1 (a new object), 2 (create) and 3 (destroy). */
public final class DomainsTest {
    private static final String TWO = "create = 0; create = 1";
    private static final String THREE = TWO + "; create = 2";

    private DomainsTest() {
    }

    public static void main(String[] args) {
        Runs t = new Runs();
        newObject(t);
        create(t);
        destroyRefused(t);
        destroyDevices(t);
        destroyMappings(t);
        destroyPorts(t);
        destroyEntriesAndPages(t);
        release(t);
        t.finish();
    }

    private static void newObject(Runs t) {
        GrantRing x = new GrantRing();
        for (int d = 0; d < 5; d++) {
            t.due("1: state of domain " + d, x.look(0, d, 0), 0);
            t.due("1: pages of domain " + d, x.look(4, d, 0), 0);
            t.due("1: alloc of domain " + d, x.alloc(d), GrantRing.BAD_DOMAIN);
            for (int i = 0; i < 6; i++) {
                t.due("1: entry " + i + " of domain " + d, x.look(2, d, i), -1);
                t.due("1: handle " + i + " of domain " + d, x.look(3, d, i), -1);
            }
        }
        for (int p = 0; p < 20; p++) {
            t.due("1: owner of page " + p, x.look(1, p, 0), -1);
        }
        for (int i = 0; i < 3; i++) {
            t.due("1: device " + i, x.look(6, i, 0), -1);
            t.due("1: serve of device " + i, x.serve(i), GrantRing.NO_DEVICE);
        }
        GrantRing first = new GrantRing();
        first.create();
        t.due("1: objects are apart", new GrantRing().create(), 0);
    }

    private static void create(Runs t) {
        t.run("2: all five, then FULL", THREE,
                "create = 3; look 0 4 0 = 0; create = 4; look 0 4 0 = 1; create = FULL; create = FULL");
        t.run("2: the least that is NONE", THREE, "destroy 1 = 0; destroy 0 = 0; create = 0; create = 1; create = 3");
        t.run("2: a DYING domain is passed over", TWO,
                "alloc 0 = 0; grant 0 1 0 0 = 0; map 1 0 0 false = 0; destroy 0 = 0; create = 2",
                "unmap 1 0 = 0; create = 0");
        t.run("2: FULL with a DYING domain among the five", THREE, "create = 3; create = 4",
                "alloc 3 = 0; grant 3 1 0 0 = 0; map 1 3 0 false = 0; destroy 3 = 0; look 0 3 0 = 2; create = FULL");
        t.run("2: comes with nothing", TWO,
                "alloc 0 = 0; grant 0 1 0 0 = 0; grant 0 1 9 2 = 1; open 0 1 = 0; open 0 1 = 1",
                "alloc 1 = 1; grant 1 0 1 1 = 0; map 0 1 0 true = 0; bind 1 0 1 = 0; send 1 0 = 1",
                "destroy 0 = 0; create = 0",
                "look 2 0 0 = -1; look 2 0 1 = -1; look 3 0 0 = -1; look 4 0 0 = 0",
                "next 0 = IDLE; send 0 1 = BAD_PORT; bind 1 0 0 = BAD_PORT; open 0 1 = 0",
                "load 0 1 0 = NOT_YOURS; map 1 0 0 false = BAD_REF");
    }

    private static void destroyRefused(Runs t) {
        t.run("3: only a LIVE domain dies",
                "destroy 0 = BAD_DOMAIN; create = 0; destroy -1 = BAD_DOMAIN; destroy 5 = BAD_DOMAIN",
                "destroy 1 = BAD_DOMAIN; destroy 2147483647 = BAD_DOMAIN; destroy -2147483648 = BAD_DOMAIN",
                "destroy 0 = 0; destroy 0 = BAD_DOMAIN");
        t.run("3: a DYING domain does not die again", TWO,
                "alloc 0 = 0; grant 0 1 0 0 = 0; map 1 0 0 false = 0; destroy 0 = 0; destroy 0 = BAD_DOMAIN",
                "look 0 0 0 = 2; look 1 0 0 = 0; load 1 0 0 = 0");
        t.run("3: a DYING domain makes no calls", TWO,
                "alloc 0 = 0; grant 0 1 0 1 = 0; map 1 0 0 true = 0; grant 1 0 0 2 = 0; alloc 1 = 1; destroy 0 = 0",
                "alloc 0 = BAD_DOMAIN; free 0 0 = BAD_DOMAIN; grant 0 1 0 0 = BAD_DOMAIN; end 0 0 = BAD_DOMAIN",
                "map 0 1 0 false = BAD_DOMAIN; map 1 0 0 true = BAD_DOMAIN; unmap 0 0 = BAD_DOMAIN",
                "give 0 0 1 0 = BAD_DOMAIN; give 1 1 0 0 = BAD_DOMAIN; store 0 0 0 1 = BAD_DOMAIN",
                "load 0 0 0 = BAD_DOMAIN; open 0 1 = BAD_DOMAIN; bind 0 1 0 = BAD_DOMAIN; bind 1 0 0 = BAD_DOMAIN",
                "send 0 0 = BAD_DOMAIN; next 0 = BAD_DOMAIN; attach 0 1 = BAD_DOMAIN; attach 1 0 = BAD_DOMAIN");
    }

    private static void destroyDevices(Runs t) {
        t.run("3: devices of the front and of the back become absent, others stay", THREE,
                "attach 0 1 = 0; attach 1 2 = 1; attach 2 0 = 2; submit 1 true 4 9 = 0; destroy 0 = 0",
                "look 6 0 0 = -1; look 6 1 0 = 1; look 6 2 0 = -1",
                "submit 0 true 0 0 = NO_DEVICE; serve 2 = NO_DEVICE; reap 0 = NO_DEVICE; serve 1 = 0; reap 1 = 9");
        t.run("3: the front's death leaves the ring page to the back's mapping", TWO,
                "attach 0 1 = 0; store 0 0 7 3 = 0; destroy 0 = 0; look 0 0 0 = 2; look 1 0 0 = 0; load 1 0 7 = 3",
                "store 1 0 7 4 = 0; load 1 0 7 = 4; unmap 1 0 = 0; look 0 0 0 = 0; look 1 0 0 = -1");
        t.run("3: the back's death leaves the ring entry to the front", TWO,
                "attach 0 1 = 0; submit 0 true 0 5 = 0; destroy 1 = 0; look 0 1 0 = 0; look 2 0 0 = 0; look 2 0 1 = 0",
                "free 0 0 = BUSY; end 0 0 = 0; free 0 0 = 0; load 0 1 0 = 5; end 0 1 = 0; free 0 1 = 0");
        t.run("3: a device number is used again with new numbers and an empty disk", THREE,
                "attach 0 1 = 0; submit 0 true 0 7 = 0; submit 0 true 7 9 = 1; serve 0 = 0; serve 0 = 0; reap 0 = 7",
                "look 5 0 0 = 7; look 5 0 7 = 9; look 6 0 0 = 1; destroy 1 = 0; create = 1",
                "attach 2 1 = 0; look 5 0 0 = 0; look 5 0 7 = 0; look 6 0 0 = 0; serve 0 = IDLE; reap 0 = IDLE; submit 0 true 1 1 = 0");
    }

    private static void destroyMappings(Runs t) {
        t.run("3: mappings of the dead are gone", THREE,
                "alloc 0 = 0; grant 0 1 0 1 = 0; grant 0 2 0 1 = 1",
                "map 1 0 0 true = 0; map 1 0 0 false = 1; map 2 0 1 true = 0; look 2 0 0 = 2",
                "destroy 1 = 0; look 2 0 0 = 0; look 2 0 1 = 1; look 3 1 0 = -1; look 3 2 0 = 0",
                "end 0 0 = 0; end 0 1 = BUSY; load 2 0 0 = 0");
        t.run("3: with RELEASE for other domains that are DYING", THREE, "create = 3",
                "alloc 0 = 0; grant 0 2 0 0 = 0; alloc 1 = 1; grant 1 2 1 0 = 0; grant 1 3 1 0 = 1",
                "map 2 0 0 false = 0; map 2 1 0 false = 1; map 3 1 1 false = 0; destroy 0 = 0; destroy 1 = 0",
                "look 0 0 0 = 2; look 0 1 0 = 2; destroy 2 = 0; look 0 0 0 = 0; look 0 1 0 = 2; look 1 0 0 = -1",
                "look 1 1 0 = 1; look 2 1 0 = -1; look 2 1 1 = 1; destroy 3 = 0; look 0 1 0 = 0; look 1 1 0 = -1");
        t.run("3: two that map one another", TWO,
                "alloc 0 = 0; alloc 1 = 1; grant 0 1 0 0 = 0; grant 1 0 1 0 = 0; map 0 1 0 false = 0",
                "map 1 0 0 false = 0; destroy 0 = 0; look 0 0 0 = 2; look 2 1 0 = 0; destroy 1 = 0",
                "look 0 0 0 = 0; look 0 1 0 = 0; look 1 0 0 = -1; look 1 1 0 = -1");
    }

    private static void destroyPorts(Runs t) {
        t.run("3: joined ports of others are closed and no more PENDING", THREE,
                "open 0 1 = 0; open 0 2 = 1; bind 1 0 0 = 0; bind 2 0 1 = 0; send 1 0 = 1; send 2 0 = 1",
                "destroy 1 = 0; next 0 = 1; next 0 = IDLE; send 0 0 = BAD_PORT; send 0 1 = 1; next 2 = 0; open 0 2 = 0");
        t.run("3: ports that wait for the dead stay so", TWO,
                "open 0 1 = 0; open 0 1 = 1; bind 1 0 1 = 0; destroy 1 = 0; open 0 1 = 1; create = 1",
                "bind 1 0 0 = 0; bind 1 0 1 = 1; bind 1 0 1 = BAD_PORT");
        t.run("3: the dead's own waiting port is closed", TWO,
                "open 0 1 = 0; destroy 0 = 0; create = 0; bind 1 0 0 = BAD_PORT; open 0 1 = 0; bind 1 0 0 = 0");
    }

    private static void destroyEntriesAndPages(Runs t) {
        t.run("3: NONE at once without a MAPPED entry", TWO,
                "alloc 0 = 0; alloc 0 = 1; grant 0 1 0 0 = 0; grant 0 1 0 2 = 1; destroy 0 = 0",
                "look 0 0 0 = 0; look 1 0 0 = -1; look 1 1 0 = -1; look 2 0 0 = -1; look 2 0 1 = -1; alloc 1 = 0");
        t.run("3: DYING keeps just what is MAPPED", TWO,
                "alloc 0 = 0; alloc 0 = 1; alloc 0 = 2; grant 0 1 1 0 = 0; grant 0 1 1 1 = 1; grant 0 1 2 0 = 2",
                "grant 0 1 0 2 = 3; map 1 0 1 true = 0; destroy 0 = 0",
                "look 0 0 0 = 2; look 4 0 0 = 1; look 1 0 0 = -1; look 1 1 0 = 0; look 1 2 0 = -1",
                "look 2 0 0 = -1; look 2 0 1 = 1; look 2 0 2 = -1; look 2 0 3 = -1; look 3 1 0 = 1",
                "store 1 1 5 6 = 0; load 1 1 5 = 6; alloc 1 = 0; alloc 1 = 2; alloc 1 = 3");
    }

    private static void release(Runs t) {
        t.run("3, 9: a page stays while another MAPPED entry has it", THREE,
                "alloc 0 = 0; alloc 0 = 1; grant 0 1 0 0 = 0; grant 0 2 0 0 = 1; grant 0 1 1 0 = 2",
                "map 1 0 0 false = 0; map 2 0 1 false = 0; map 1 0 2 false = 1; destroy 0 = 0; look 4 0 0 = 2",
                "unmap 1 0 = 0; look 2 0 0 = -1; look 1 0 0 = 0; look 4 0 0 = 2; load 1 0 0 = NOT_YOURS",
                "unmap 2 0 = 0; look 2 0 1 = -1; look 1 0 0 = -1; look 4 0 0 = 1; look 0 0 0 = 2",
                "unmap 1 1 = 0; look 1 1 0 = -1; look 4 0 0 = 0; look 0 0 0 = 0; create = 0");
        t.run("3, 9: an entry stays until its last MAPPING goes", TWO,
                "alloc 0 = 0; grant 0 1 0 1 = 0; map 1 0 0 false = 0; map 1 0 0 true = 1; destroy 0 = 0",
                "unmap 1 0 = 0; look 2 0 0 = 1; look 0 0 0 = 2; store 1 0 0 8 = 0; load 1 0 0 = 8",
                "unmap 1 1 = 0; look 2 0 0 = -1; look 0 0 0 = 0; load 1 0 0 = NOT_YOURS");
    }
}
