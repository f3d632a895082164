import java.util.Map;
import java.util.TreeMap;
import java.util.TreeSet;

/**
 * A second reading of the document, to hold the class against: facts in maps, nothing counted that can be
 * looked up, and calls of several steps done on a copy that is thrown away when a step is refused.
 * A thing of a domain (entry, handle, port) has the key domain * 10 + number.
 */
final class Model {
    private record Entry(int target, int kind, int page) { }

    private record Mapping(int entryKey, boolean writing) { }

    private record Device(int front, int back, int ringPage, int ringEntry, int ringHandle, int frontPort,
            int backPort) { }

    private static final int FRESH = 0;
    private static final int ALIVE = 1;
    private static final int FADING = 2;

    private Map<Integer, Integer> states = new TreeMap<>();
    private Map<Integer, Integer> owners = new TreeMap<>();
    private Map<Integer, Entry> entries = new TreeMap<>();
    private Map<Integer, Mapping> mappings = new TreeMap<>();
    private Map<Integer, Integer> waiting = new TreeMap<>();
    private Map<Integer, Integer> joined = new TreeMap<>();
    private TreeSet<Integer> pending = new TreeSet<>();
    private Map<Integer, Device> devices = new TreeMap<>();
    private int[][] words = new int[20][8];
    private int[][] disks = new int[3][8];
    private int[] posted = new int[3];
    private int[] reaped = new int[3];
    private int[] taken = new int[3];
    private Map<Integer, int[]> notes = new TreeMap<>();

    long make(String name, int[] n) {
        switch (name) {
            case "create": return create();
            case "destroy": return destroy(n[0]);
            case "alloc": return alloc(n[0]);
            case "free": return free(n[0], n[1]);
            case "grant": return grant(n[0], n[1], n[2], n[3]);
            case "end": return end(n[0], n[1]);
            case "map": return map(n[0], n[1], n[2], n[3] != 0);
            case "unmap": return unmap(n[0], n[1]);
            case "give": return give(n[0], n[1], n[2], n[3]);
            case "store": return store(n[0], n[1], n[2], n[3]);
            case "load": return load(n[0], n[1], n[2]);
            case "open": return open(n[0], n[1]);
            case "bind": return bind(n[0], n[1], n[2]);
            case "send": return send(n[0], n[1]);
            case "next": return next(n[0]);
            case "attach": return attach(n[0], n[1]);
            case "submit": return submit(n[0], n[1] != 0, n[2], n[3]);
            case "serve": return serve(n[0]);
            case "reap": return reap(n[0]);
            case "look": return look(n[0], n[1], n[2]);
            default: throw new IllegalArgumentException("no call " + name);
        }
    }

    /** How much of the rarer state there is, so that the random runs can be told to reach it. */
    String rareState() {
        if (states.containsValue(FADING)) {
            return "dying";
        }
        for (int i : devices.keySet()) {
            if (isBroken(i)) {
                return "broken";
            }
        }
        return "plain";
    }

    private static boolean in(int n, int count) {
        return 0 <= n && n < count;
    }

    private boolean alive(int d) {
        return states.getOrDefault(d, FRESH) == ALIVE;
    }

    private static int least(Map<Integer, ?> used, Map<Integer, ?> usedToo, int first, int count) {
        for (int i = 0; i < count; i++) {
            if (!used.containsKey(first + i) && !usedToo.containsKey(first + i)) {
                return i;
            }
        }
        return -1;
    }

    private long mappingsOf(int entryKey) {
        return mappings.values().stream().filter(m -> m.entryKey() == entryKey).count();
    }

    private boolean entryHas(int d, int p, boolean mappedOnly) {
        return entries.entrySet().stream().anyMatch(e -> e.getKey() / 10 == d && e.getValue().kind() != 2
                && e.getValue().page() == p && (!mappedOnly || mappingsOf(e.getKey()) > 0));
    }

    private long owned(int d) {
        return owners.values().stream().filter(o -> o == d).count();
    }

    private boolean ownedBy(int d, int p) {
        return owners.containsKey(p) && owners.get(p) == d;
    }

    private Entry entry(int d, int ref) {
        return in(ref, 6) ? entries.get(d * 10 + ref) : null;
    }

    private long create() {
        for (int d = 0; d < 5; d++) {
            if (!states.containsKey(d)) {
                states.put(d, ALIVE);
                return d;
            }
        }
        return -7;
    }

    private long destroy(int d) {
        if (!alive(d)) {
            return -1;
        }
        devices.values().removeIf(x -> x.front() == d || x.back() == d);
        for (int h = 0; h < 5; h++) {
            dropMapping(d * 10 + h);
        }
        for (int i = 0; i < 4; i++) {
            int key = d * 10 + i;
            waiting.remove(key);
            pending.remove(key);
            Integer other = joined.remove(key);
            if (other != null) {
                joined.remove(other);
                pending.remove(other);
            }
        }
        entries.keySet().removeIf(k -> k / 10 == d && mappingsOf(k) == 0);
        owners.entrySet().removeIf(o -> o.getValue() == d && !entryHas(d, o.getKey(), true));
        states.put(d, FADING);
        forgetIfBare(d);
        return 0;
    }

    private void forgetIfBare(int d) {
        if (owned(d) == 0) {
            states.remove(d);
        }
    }

    private void dropMapping(int handleKey) {
        Mapping gone = mappings.remove(handleKey);
        if (gone == null) {
            return;
        }
        int d = gone.entryKey() / 10;
        if (states.get(d) == FADING && mappingsOf(gone.entryKey()) == 0) {
            int p = entries.remove(gone.entryKey()).page();
            if (!entryHas(d, p, true)) {
                owners.remove(p);
            }
            forgetIfBare(d);
        }
    }

    private long alloc(int d) {
        if (!alive(d)) {
            return -1;
        }
        int p = least(owners, owners, 0, 20);
        if (owned(d) == 6 || p < 0) {
            return -7;
        }
        owners.put(p, d);
        words[p] = new int[8];
        return p;
    }

    private long free(int d, int p) {
        if (!alive(d)) {
            return -1;
        }
        if (!ownedBy(d, p)) {
            return -3;
        }
        if (entryHas(d, p, false)) {
            return -4;
        }
        owners.remove(p);
        return 0;
    }

    private long grant(int d, int t, int p, int kind) {
        if (!alive(d)) {
            return -1;
        }
        if (!in(t, 5) || t == d || !in(kind, 3)) {
            return -2;
        }
        if (kind != 2 && !ownedBy(d, p)) {
            return -3;
        }
        int ref = least(entries, entries, d * 10, 6);
        if (ref < 0) {
            return -7;
        }
        entries.put(d * 10 + ref, new Entry(t, kind, p));
        return ref;
    }

    private long end(int d, int ref) {
        if (!alive(d)) {
            return -1;
        }
        if (entry(d, ref) == null) {
            return -5;
        }
        if (mappingsOf(d * 10 + ref) > 0) {
            return -4;
        }
        entries.remove(d * 10 + ref);
        return 0;
    }

    private long map(int d, int from, int ref, boolean writing) {
        if (!alive(d) || !alive(from)) {
            return -1;
        }
        Entry e = entry(from, ref);
        if (e == null || e.kind() == 2 || e.target() != d) {
            return -5;
        }
        if (writing && e.kind() == 0) {
            return -6;
        }
        int h = least(mappings, mappings, d * 10, 5);
        if (h < 0) {
            return -7;
        }
        mappings.put(d * 10 + h, new Mapping(from * 10 + ref, writing));
        return h;
    }

    private long unmap(int d, int h) {
        if (!alive(d)) {
            return -1;
        }
        if (!in(h, 5) || !mappings.containsKey(d * 10 + h)) {
            return -5;
        }
        dropMapping(d * 10 + h);
        return 0;
    }

    private long give(int d, int p, int to, int ref) {
        if (!alive(d) || !alive(to)) {
            return -1;
        }
        if (!ownedBy(d, p)) {
            return -3;
        }
        if (entryHas(d, p, false)) {
            return -4;
        }
        Entry e = entry(to, ref);
        if (e == null || e.kind() != 2 || e.target() != d) {
            return -5;
        }
        if (owned(to) == 6) {
            return -7;
        }
        owners.put(p, to);
        entries.remove(to * 10 + ref);
        return 0;
    }

    private long reach(int d, int p, int w, boolean writing) {
        if (!alive(d)) {
            return -1;
        }
        if (!in(p, 20) || !in(w, 8)) {
            return -2;
        }
        boolean mapped = mappings.entrySet().stream().anyMatch(m -> m.getKey() / 10 == d
                && (m.getValue().writing() || !writing) && entries.get(m.getValue().entryKey()).page() == p);
        return ownedBy(d, p) || mapped ? 0 : -3;
    }

    private long store(int d, int p, int w, int v) {
        long code = reach(d, p, w, true);
        if (code == 0) {
            words[p][w] = v;
        }
        return code;
    }

    private long load(int d, int p, int w) {
        long code = reach(d, p, w, false);
        return code < 0 ? code : Integer.toUnsignedLong(words[p][w]);
    }

    private long open(int d, int t) {
        if (!alive(d)) {
            return -1;
        }
        if (!in(t, 5) || t == d) {
            return -2;
        }
        int i = least(waiting, joined, d * 10, 4);
        if (i < 0) {
            return -7;
        }
        waiting.put(d * 10 + i, t);
        return i;
    }

    private long bind(int d, int t, int port) {
        if (!alive(d) || !alive(t)) {
            return -1;
        }
        if (!in(port, 4) || waiting.getOrDefault(t * 10 + port, -1) != d) {
            return -8;
        }
        int i = least(waiting, joined, d * 10, 4);
        if (i < 0) {
            return -7;
        }
        waiting.remove(t * 10 + port);
        joined.put(t * 10 + port, d * 10 + i);
        joined.put(d * 10 + i, t * 10 + port);
        return i;
    }

    private long send(int d, int port) {
        if (!alive(d)) {
            return -1;
        }
        if (!in(port, 4) || !joined.containsKey(d * 10 + port)) {
            return -8;
        }
        return pending.add(joined.get(d * 10 + port)) ? 1 : 0;
    }

    private long next(int d) {
        if (!alive(d)) {
            return -1;
        }
        Integer key = pending.ceiling(d * 10);
        if (key == null || key / 10 != d) {
            return -11;
        }
        pending.remove(key);
        return key % 10;
    }

    private long attach(int f, int b) {
        if (!alive(f) || !alive(b)) {
            return -1;
        }
        if (f == b) {
            return -2;
        }
        int number = least(devices, devices, 0, 3);
        Model kept = copy();
        long page = alloc(f);
        long ref = page < 0 ? -7 : grant(f, b, (int) page, 1);
        long handle = ref < 0 ? -7 : map(b, f, (int) ref, true);
        long port = handle < 0 ? -7 : open(f, b);
        long backPort = port < 0 ? -7 : bind(b, f, (int) port);
        if (number < 0 || backPort < 0) {
            become(kept);
            return -7;
        }
        devices.put(number, new Device(f, b, (int) page, (int) ref, (int) handle, (int) port, (int) backPort));
        posted[number] = 0;
        reaped[number] = 0;
        taken[number] = 0;
        disks[number] = new int[8];
        return number;
    }

    private boolean isBroken(int i) {
        Device x = devices.get(i);
        Mapping m = mappings.get(x.back() * 10 + x.ringHandle());
        int entryKey = x.front() * 10 + x.ringEntry();
        return m == null || !m.writing() || m.entryKey() != entryKey || entries.get(entryKey).page() != x.ringPage();
    }

    private long deviceCode(int i) {
        if (!devices.containsKey(i)) {
            return -9;
        }
        return isBroken(i) ? -10 : 0;
    }

    private long submit(int i, boolean writing, int sector, int v) {
        if (deviceCode(i) != 0) {
            return deviceCode(i);
        }
        if (!in(sector, 8)) {
            return -2;
        }
        Device x = devices.get(i);
        Model kept = copy();
        long page = posted[i] - reaped[i] == 3 ? -7 : alloc(x.front());
        long ref = page < 0 ? -7 : grant(x.front(), x.back(), (int) page, writing ? 0 : 1);
        if (ref < 0) {
            become(kept);
            return -7;
        }
        if (writing) {
            words[(int) page][0] = v;
        }
        int q = posted[i];
        notes.put(i * 10 + q % 3, new int[] {(int) page, (int) ref});
        words[x.ringPage()][2 + q % 3] = (int) (sector + (writing ? 8 : 0) + 16 * ref);
        posted[i] = q + 1;
        words[x.ringPage()][0] = q + 1;
        send(x.front(), x.frontPort());
        return q;
    }

    private long serve(int i) {
        if (deviceCode(i) != 0) {
            return deviceCode(i);
        }
        Device x = devices.get(i);
        int ring = x.ringPage();
        long n = (long) words[ring][0] - taken[i];
        if (n == 0) {
            return -11;
        }
        if (n < 1 || n > 3) {
            return -12;
        }
        int q = taken[i];
        int r = words[ring][2 + q % 3];
        boolean writing = (r & 8) != 0;
        long status = map(x.back(), x.front(), r >> 4, !writing);
        if (status >= 0) {
            int page = entries.get(x.front() * 10 + (r >> 4)).page();
            if (writing) {
                disks[i][r & 7] = words[page][0];
            } else {
                words[page][0] = disks[i][r & 7];
            }
            mappings.remove(x.back() * 10 + (int) status);
            status = 0;
        }
        words[ring][5 + q % 3] = (int) status;
        taken[i] = q + 1;
        words[ring][1] = q + 1;
        send(x.back(), x.backPort());
        return status;
    }

    private long reap(int i) {
        if (deviceCode(i) != 0) {
            return deviceCode(i);
        }
        Device x = devices.get(i);
        long n = (long) words[x.ringPage()][1] - reaped[i];
        if (n == 0) {
            return -11;
        }
        if (n < 1 || n > posted[i] - reaped[i]) {
            return -12;
        }
        int q = reaped[i]++;
        int status = words[x.ringPage()][5 + q % 3];
        int[] note = notes.get(i * 10 + q % 3);
        long answer = load(x.front(), note[0], 0);
        end(x.front(), note[1]);
        free(x.front(), note[0]);
        return status == 0 ? answer : -13;
    }

    private long look(int what, int a, int b) {
        boolean domain = in(a, 5);
        boolean device = devices.containsKey(a);
        switch (what) {
            case 0: return domain ? states.getOrDefault(a, FRESH) : -1;
            case 1: return owners.getOrDefault(a, -1);
            case 2: return domain && entry(a, b) != null ? mappingsOf(a * 10 + b) : -1;
            case 3: return domain && in(b, 5) && mappings.containsKey(a * 10 + b)
                    ? entries.get(mappings.get(a * 10 + b).entryKey()).page() : -1;
            case 4: return domain ? owned(a) : -1;
            case 5: return device && in(b, 8) ? Integer.toUnsignedLong(disks[a][b]) : -1;
            case 6: return device ? posted[a] - reaped[a] : -1;
            default: return -1;
        }
    }

    private static int[][] copyOf(int[][] rows) {
        int[][] copy = new int[rows.length][];
        for (int i = 0; i < rows.length; i++) {
            copy[i] = rows[i].clone();
        }
        return copy;
    }

    private Model copy() {
        Model m = new Model();
        m.become(this);
        m.states = new TreeMap<>(states);
        m.owners = new TreeMap<>(owners);
        m.entries = new TreeMap<>(entries);
        m.mappings = new TreeMap<>(mappings);
        m.waiting = new TreeMap<>(waiting);
        m.joined = new TreeMap<>(joined);
        m.pending = new TreeSet<>(pending);
        m.devices = new TreeMap<>(devices);
        m.notes = new TreeMap<>(notes);
        m.words = copyOf(words);
        m.disks = copyOf(disks);
        m.posted = posted.clone();
        m.reaped = reaped.clone();
        m.taken = taken.clone();
        return m;
    }

    private void become(Model m) {
        states = m.states;
        owners = m.owners;
        entries = m.entries;
        mappings = m.mappings;
        waiting = m.waiting;
        joined = m.joined;
        pending = m.pending;
        devices = m.devices;
        notes = m.notes;
        words = m.words;
        disks = m.disks;
        posted = m.posted;
        reaped = m.reaped;
        taken = m.taken;
    }
}
