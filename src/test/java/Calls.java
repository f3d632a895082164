import java.util.Map;

/** Makes a call from its name and its arguments as numbers (a boolean is 0 or not 0), and names the codes. */
final class Calls {
    static final String[] NAMES = {
        "create", "destroy", "alloc", "free", "grant", "end", "map", "unmap", "give", "store", "load",
        "open", "bind", "send", "next", "attach", "submit", "serve", "reap", "look"
    };

    static final Map<String, Integer> CODES = Map.ofEntries(
            Map.entry("BAD_DOMAIN", -1), Map.entry("BAD_ARGUMENT", -2), Map.entry("NOT_YOURS", -3),
            Map.entry("BUSY", -4), Map.entry("BAD_REF", -5), Map.entry("READ_ONLY", -6),
            Map.entry("FULL", -7), Map.entry("BAD_PORT", -8), Map.entry("NO_DEVICE", -9),
            Map.entry("BROKEN", -10), Map.entry("IDLE", -11), Map.entry("BAD_RING", -12),
            Map.entry("FAILED", -13));

    /**
     * The codes below 0 that the document gives each call, the one that counts first standing first; for serve and
     * reap, what tells how a request went comes last.
     */
    static final Map<String, int[]> REFUSALS = Map.ofEntries(
            Map.entry("create", new int[] {-7}),
            Map.entry("destroy", new int[] {-1}),
            Map.entry("alloc", new int[] {-1, -7}),
            Map.entry("free", new int[] {-1, -3, -4}),
            Map.entry("grant", new int[] {-1, -2, -3, -7}),
            Map.entry("end", new int[] {-1, -5, -4}),
            Map.entry("map", new int[] {-1, -5, -6, -7}),
            Map.entry("unmap", new int[] {-1, -5}),
            Map.entry("give", new int[] {-1, -3, -4, -5, -7}),
            Map.entry("store", new int[] {-1, -2, -3}),
            Map.entry("load", new int[] {-1, -2, -3}),
            Map.entry("open", new int[] {-1, -2, -7}),
            Map.entry("bind", new int[] {-1, -8, -7}),
            Map.entry("send", new int[] {-1, -8}),
            Map.entry("next", new int[] {-1, -11}),
            Map.entry("attach", new int[] {-1, -2, -7}),
            Map.entry("submit", new int[] {-9, -10, -2, -7}),
            Map.entry("serve", new int[] {-9, -10, -11, -12, -5, -6, -7}),
            Map.entry("reap", new int[] {-9, -10, -11, -12, -13, -3}),
            Map.entry("look", new int[] {-1}));

    private Calls() {
    }

    static int argumentsOf(String name) {
        switch (name) {
            case "create":
                return 0;
            case "destroy": case "alloc": case "next": case "serve": case "reap":
                return 1;
            case "free": case "end": case "unmap": case "open": case "send": case "attach":
                return 2;
            case "load": case "bind": case "look":
                return 3;
            case "grant": case "map": case "give": case "store": case "submit":
                return 4;
            default:
                throw new IllegalArgumentException("no call " + name);
        }
    }

    static long make(GrantRing x, String name, int[] n) {
        switch (name) {
            case "create": return x.create();
            case "destroy": return x.destroy(n[0]);
            case "alloc": return x.alloc(n[0]);
            case "free": return x.free(n[0], n[1]);
            case "grant": return x.grant(n[0], n[1], n[2], n[3]);
            case "end": return x.end(n[0], n[1]);
            case "map": return x.map(n[0], n[1], n[2], n[3] != 0);
            case "unmap": return x.unmap(n[0], n[1]);
            case "give": return x.give(n[0], n[1], n[2], n[3]);
            case "store": return x.store(n[0], n[1], n[2], n[3]);
            case "load": return x.load(n[0], n[1], n[2]);
            case "open": return x.open(n[0], n[1]);
            case "bind": return x.bind(n[0], n[1], n[2]);
            case "send": return x.send(n[0], n[1]);
            case "next": return x.next(n[0]);
            case "attach": return x.attach(n[0], n[1]);
            case "submit": return x.submit(n[0], n[1] != 0, n[2], n[3]);
            case "serve": return x.serve(n[0]);
            case "reap": return x.reap(n[0]);
            case "look": return x.look(n[0], n[1], n[2]);
            default: throw new IllegalArgumentException("no call " + name);
        }
    }
}
