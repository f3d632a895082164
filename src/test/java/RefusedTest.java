import java.util.Map;
import java.util.Set;
import java.util.TreeMap;
import java.util.TreeSet;

/**
 * "Every call that answers one of the codes below 0 changes nothing, but for serve and reap as said there": every
 * code of every call, in a world where there is much that could be changed. Runs sounds the state out after each.
 */
public final class RefusedTest {
    /**
     * 0, 1, 2 and 4 are LIVE, 3 is DYING with page 0 (mapped by 2). Device 0 of 0 and 1 has ring page 1, ring entry 0,
     * ring handle 0, and port 0 of each, both PENDING; request 0 (page 2, entry 1) is served, request 1 (page 3,
     * entry 2) is not. Page 4 of 0 is in its entry 3, READ, which 1 has mapped at handle 1; page 5 of 0 is in no entry;
     * entry 4 of 0 waits for a page from 2. 2 owns page 6. Port 1 of 0 WAITS for 2, port 0 of 2 is JOINED to port 0 of
     * 4, which is PENDING.
     */
    private static final String WORLD = Worlds.FIVE
            + "; alloc 3 = 0; grant 3 2 0 1 = 0; map 2 3 0 true = 0; destroy 3 = 0; attach 0 1 = 0"
            + "; submit 0 true 2 77 = 0; submit 0 false 2 0 = 1; serve 0 = 0; alloc 0 = 4; store 0 4 5 -9 = 0"
            + "; grant 0 1 4 0 = 3; map 1 0 3 false = 1; alloc 0 = 5; grant 0 2 0 2 = 4; alloc 2 = 6; open 0 2 = 1"
            + "; open 2 4 = 0; bind 4 2 0 = 0; send 2 0 = 1";

    private final Runs runs = new Runs();
    private final Map<String, Set<Integer>> refused = new TreeMap<>();

    private RefusedTest() {
    }

    public static void main(String[] args) {
        RefusedTest test = new RefusedTest();
        test.domainsAndPages();
        test.grants();
        test.ports();
        test.devices();
        test.goodCallsAreSeen();
        test.everyCodeWasThere();
        test.runs.finish();
    }

    private void refused(String setup, String row) {
        runs.run("refused, changes nothing", WORLD, setup, row);
        Row last = Row.all(row).get(0);
        refused.computeIfAbsent(last.name(), name -> new TreeSet<>()).add((int) last.answer());
    }

    private void domainsAndPages() {
        refused("", "create = FULL");
        refused("", "destroy 3 = BAD_DOMAIN");
        refused("", "alloc 3 = BAD_DOMAIN");
        refused("alloc 0 = 7", "alloc 0 = FULL");
        refused("", "free 3 0 = BAD_DOMAIN");
        refused("", "free 2 5 = NOT_YOURS");
        refused("", "free 0 4 = BUSY");
        refused("", "store 3 0 0 5 = BAD_DOMAIN");
        refused("", "store 0 5 8 5 = BAD_ARGUMENT");
        refused("", "store 1 4 0 5 = NOT_YOURS");
        refused("", "load 3 0 0 = BAD_DOMAIN");
        refused("", "load 0 20 0 = BAD_ARGUMENT");
        refused("", "load 2 4 0 = NOT_YOURS");
        refused("", "look 2 0 5 = -1");
    }

    private void grants() {
        refused("", "grant 3 2 0 0 = BAD_DOMAIN");
        refused("", "grant 0 0 5 0 = BAD_ARGUMENT");
        refused("", "grant 0 1 6 0 = NOT_YOURS");
        refused("grant 0 1 4 1 = 5", "grant 0 1 5 1 = FULL");
        refused("", "end 3 0 = BAD_DOMAIN");
        refused("", "end 0 5 = BAD_REF");
        refused("", "end 0 3 = BUSY");
        refused("", "map 2 3 0 true = BAD_DOMAIN");
        refused("", "map 1 0 4 false = BAD_REF");
        refused("", "map 1 0 3 true = READ_ONLY");
        refused(Worlds.times("map 1 0 3 false", 2, 3), "map 1 0 3 false = FULL");
        refused("", "unmap 3 0 = BAD_DOMAIN");
        refused("", "unmap 1 2 = BAD_REF");
        refused("", "give 2 6 3 0 = BAD_DOMAIN");
        refused("", "give 2 5 0 4 = NOT_YOURS");
        refused("grant 2 1 6 0 = 0", "give 2 6 0 4 = BUSY");
        refused("", "give 2 6 0 3 = BAD_REF");
        refused("alloc 0 = 7", "give 2 6 0 4 = FULL");
    }

    private void ports() {
        refused("", "open 3 0 = BAD_DOMAIN");
        refused("", "open 0 0 = BAD_ARGUMENT");
        refused("open 0 1 = 2; open 0 1 = 3", "open 0 1 = FULL");
        refused("", "bind 2 3 0 = BAD_DOMAIN");
        refused("", "bind 1 0 1 = BAD_PORT");
        refused(Worlds.times("open 2 0", 1, 3), "bind 2 0 1 = FULL");
        refused("", "send 3 0 = BAD_DOMAIN");
        refused("", "send 0 1 = BAD_PORT");
        refused("", "next 3 = BAD_DOMAIN");
        refused("", "next 2 = IDLE");
    }

    private void devices() {
        refused("", "attach 0 3 = BAD_DOMAIN");
        refused("", "attach 0 0 = BAD_ARGUMENT");
        refused("attach 2 4 = 1; attach 4 2 = 2", "attach 0 1 = FULL");
        refused("alloc 0 = 7", "attach 0 1 = FULL");
        refused("grant 0 1 4 1 = 5", "attach 0 1 = FULL");
        refused(Worlds.times("map 1 0 3 false", 2, 3), "attach 0 1 = FULL");
        refused("open 0 1 = 2; open 0 1 = 3", "attach 0 1 = FULL");
        refused(Worlds.times("open 1 2", 1, 3), "attach 0 1 = FULL");
        refused("", "submit 1 true 0 5 = NO_DEVICE");
        refused("unmap 1 0 = 0", "submit 0 true 0 5 = BROKEN");
        refused("", "submit 0 true 8 5 = BAD_ARGUMENT");
        refused("submit 0 true 0 5 = 2", "submit 0 true 0 5 = FULL");
        refused("alloc 0 = 7", "submit 0 true 0 5 = FULL");
        refused("grant 0 1 4 1 = 5", "submit 0 false 0 5 = FULL");
        refused("", "serve 1 = NO_DEVICE");
        refused("unmap 1 0 = 0", "serve 0 = BROKEN");
        refused("serve 0 = 0", "serve 0 = IDLE");
        refused("store 0 1 0 5 = 0", "serve 0 = BAD_RING");
        refused("", "reap 1 = NO_DEVICE");
        refused("unmap 1 0 = 0", "reap 0 = BROKEN");
        refused("reap 0 = 77", "reap 0 = IDLE");
        refused("store 1 1 1 3 = 0", "reap 0 = BAD_RING");
    }

    /** A sounding that is blind to a kind of change would let refused calls make it. */
    private void goodCallsAreSeen() {
        String[] rows = {"destroy 4 = 0", "destroy 1 = 0", "alloc 4 = 7", "free 0 5 = 0", "grant 0 1 4 0 = 5",
            "grant 0 1 4 2 = 5", "end 0 4 = 0", "end 0 1 = 0", "map 1 0 3 false = 2", "unmap 1 1 = 0", "unmap 2 0 = 0",
            "give 2 6 0 4 = 0", "store 0 5 7 5 = 0", "store 1 1 6 5 = 0", "store 2 0 3 5 = 0", "open 4 3 = 1",
            "bind 2 0 1 = 1", "send 4 0 = 1", "next 0 = 0", "next 1 = 0", "next 4 = 0", "attach 0 1 = 1",
            "attach 4 2 = 1", "submit 0 true 0 5 = 2", "submit 0 false 0 5 = 2", "serve 0 = 0", "reap 0 = 77"};
        for (String row : rows) {
            runs.seen("a good call changes something", WORLD, row);
        }
        runs.seen("a good call changes something", Worlds.TWO, "create = 2");
    }

    private void everyCodeWasThere() {
        for (String name : Calls.NAMES) {
            for (int code : Calls.REFUSALS.get(name)) {
                boolean refusal = new Row(name, new int[0], code).changesNothing();
                if (refusal) {
                    runs.due(name + " refused with " + code, refused.get(name).contains(code) ? 1 : 0, 1);
                }
            }
        }
    }
}
