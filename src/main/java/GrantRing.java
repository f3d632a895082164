/**
 * Domains that share pages by grants, wake one another by ports, and run block devices in two halves
 * over a ring in a shared page.
 */
public final class GrantRing {
    public static final int BAD_DOMAIN = -1;
    public static final int BAD_ARGUMENT = -2;
    public static final int NOT_YOURS = -3;
    public static final int BUSY = -4;
    public static final int BAD_REF = -5;
    public static final int READ_ONLY = -6;
    public static final int FULL = -7;
    public static final int BAD_PORT = -8;
    public static final int NO_DEVICE = -9;
    public static final int BROKEN = -10;
    public static final int IDLE = -11;
    public static final int BAD_RING = -12;
    public static final int FAILED = -13;

    private static final int DONE = 0;
    private static final int NOTHING = -1;

    private static final int DOMAIN_COUNT = 5;
    private static final int PAGE_COUNT = 20;
    private static final int WORD_COUNT = 8;
    private static final int PAGES_PER_DOMAIN = 6;
    private static final int ENTRY_COUNT = 6;
    private static final int HANDLE_COUNT = 5;
    private static final int PORT_COUNT = 4;
    private static final int DEVICE_COUNT = 3;
    private static final int SECTOR_COUNT = 8;
    private static final int SLOT_COUNT = 3;

    private static final int NONE = 0;
    private static final int LIVE = 1;
    private static final int DYING = 2;

    private static final int READ = 0;
    private static final int WRITE = 1;
    private static final int TRANSFER = 2;

    private static final int CLOSED = 0;
    private static final int WAITING = 1;
    private static final int JOINED = 2;

    private static final int REQUESTS_WORD = 0;
    private static final int RESPONSES_WORD = 1;
    private static final int FIRST_REQUEST_WORD = 2;
    private static final int FIRST_RESPONSE_WORD = 5;
    private static final int DATA_WORD = 0;

    private static final int SECTOR_MASK = 7;
    private static final int WRITING_BIT = 8;
    private static final int ENTRY_SHIFT = 4;

    private static final long WORD_MASK = 0xFFFFFFFFL;

    private final Domain[] domains = new Domain[DOMAIN_COUNT];
    private final Page[] pages = new Page[PAGE_COUNT];
    private final Device[] devices = new Device[DEVICE_COUNT];

    public GrantRing() {
        for (int d = 0; d < DOMAIN_COUNT; d++) {
            domains[d] = new Domain();
        }
        for (int p = 0; p < PAGE_COUNT; p++) {
            pages[p] = new Page();
        }
        for (int i = 0; i < DEVICE_COUNT; i++) {
            devices[i] = new Device();
        }
    }

    public int create() {
        for (int d = 0; d < DOMAIN_COUNT; d++) {
            if (domains[d].state == NONE) {
                // Its entries, handles and ports were all cleared on the way to NONE.
                domains[d].state = LIVE;
                return d;
            }
        }
        return FULL;
    }

    public int destroy(int d) {
        if (!isLive(d)) {
            return BAD_DOMAIN;
        }
        removeDevicesOf(d);
        takeAwayMappingsOf(d);
        closePortsOf(d);
        domains[d].state = DYING;
        domains[d].clearUnmappedEntries();
        freeUnmappedPagesOf(d);
        buryIfPageless(d);
        return DONE;
    }

    public int alloc(int d) {
        if (!isLive(d)) {
            return BAD_DOMAIN;
        }
        int p = pageToGet(d);
        if (p == NOTHING) {
            return FULL;
        }
        pages[p].owner = d;
        pages[p].wipe();
        return p;
    }

    public int free(int d, int p) {
        if (!isLive(d)) {
            return BAD_DOMAIN;
        }
        if (!owns(d, p)) {
            return NOT_YOURS;
        }
        if (domains[d].hasEntryWith(p)) {
            return BUSY;
        }
        pages[p].owner = NOTHING;
        return DONE;
    }

    public int grant(int d, int t, int p, int kind) {
        if (!isLive(d)) {
            return BAD_DOMAIN;
        }
        if (!isOtherDomain(d, t) || kind < READ || kind > TRANSFER) {
            return BAD_ARGUMENT;
        }
        if (kind != TRANSFER && !owns(d, p)) {
            return NOT_YOURS;
        }
        int ref = domains[d].leastFreeEntry();
        if (ref == NOTHING) {
            return FULL;
        }
        domains[d].entries[ref].fill(t, kind, kind == TRANSFER ? NOTHING : p);
        return ref;
    }

    public int end(int d, int ref) {
        if (!isLive(d)) {
            return BAD_DOMAIN;
        }
        if (!domains[d].hasEntry(ref)) {
            return BAD_REF;
        }
        Entry entry = domains[d].entries[ref];
        if (entry.isMapped()) {
            return BUSY;
        }
        entry.clear();
        return DONE;
    }

    public int map(int d, int from, int ref, boolean writing) {
        if (!isLive(d) || !isLive(from)) {
            return BAD_DOMAIN;
        }
        if (!domains[from].hasEntry(ref)) {
            return BAD_REF;
        }
        Entry entry = domains[from].entries[ref];
        if (entry.kind == TRANSFER || entry.target != d) {
            return BAD_REF;
        }
        if (writing && entry.kind == READ) {
            return READ_ONLY;
        }
        int h = domains[d].leastFreeHandle();
        if (h == NOTHING) {
            return FULL;
        }
        domains[d].handles[h].fill(from, ref, writing);
        entry.mappings++;
        return h;
    }

    public int unmap(int d, int h) {
        if (!isLive(d)) {
            return BAD_DOMAIN;
        }
        if (!domains[d].hasMapping(h)) {
            return BAD_REF;
        }
        takeAway(domains[d].handles[h]);
        return DONE;
    }

    public int give(int d, int p, int to, int ref) {
        if (!isLive(d) || !isLive(to)) {
            return BAD_DOMAIN;
        }
        if (!owns(d, p)) {
            return NOT_YOURS;
        }
        if (domains[d].hasEntryWith(p)) {
            return BUSY;
        }
        if (!domains[to].hasEntry(ref)) {
            return BAD_REF;
        }
        Entry entry = domains[to].entries[ref];
        if (entry.kind != TRANSFER || entry.target != d) {
            return BAD_REF;
        }
        if (pagesOwnedBy(to) >= PAGES_PER_DOMAIN) {
            return FULL;
        }
        pages[p].owner = to;
        entry.clear();
        return DONE;
    }

    public int store(int d, int p, int w, int v) {
        int code = accessCode(d, p, w, true);
        if (code == DONE) {
            pages[p].words[w] = v;
        }
        return code;
    }

    public long load(int d, int p, int w) {
        int code = accessCode(d, p, w, false);
        return code == DONE ? pages[p].words[w] & WORD_MASK : code;
    }

    public int open(int d, int t) {
        if (!isLive(d)) {
            return BAD_DOMAIN;
        }
        if (!isOtherDomain(d, t)) {
            return BAD_ARGUMENT;
        }
        int port = domains[d].leastClosedPort();
        if (port == NOTHING) {
            return FULL;
        }
        domains[d].ports[port].waitFor(t);
        return port;
    }

    public int bind(int d, int t, int port) {
        if (!isLive(d) || !isLive(t)) {
            return BAD_DOMAIN;
        }
        if (!isPort(port) || !domains[t].ports[port].isWaitingFor(d)) {
            return BAD_PORT;
        }
        int own = domains[d].leastClosedPort();
        if (own == NOTHING) {
            return FULL;
        }
        domains[d].ports[own].joinTo(t, port);
        domains[t].ports[port].joinTo(d, own);
        return own;
    }

    public int send(int d, int port) {
        if (!isLive(d)) {
            return BAD_DOMAIN;
        }
        if (!isPort(port) || domains[d].ports[port].state != JOINED) {
            return BAD_PORT;
        }
        Port peer = peerOf(domains[d].ports[port]);
        int answer = peer.pending ? 0 : 1;
        peer.pending = true;
        return answer;
    }

    public int next(int d) {
        if (!isLive(d)) {
            return BAD_DOMAIN;
        }
        Port[] ports = domains[d].ports;
        for (int i = 0; i < PORT_COUNT; i++) {
            if (ports[i].pending) {
                ports[i].pending = false;
                return i;
            }
        }
        return IDLE;
    }

    public int attach(int f, int b) {
        if (!isLive(f) || !isLive(b)) {
            return BAD_DOMAIN;
        }
        if (f == b) {
            return BAD_ARGUMENT;
        }
        int number = leastAbsentDevice();
        // All room is looked for first: a refused attach must leave no half-made device behind.
        if (number == NOTHING || !hasRoomForFront(f) || !hasRoomForBack(b)) {
            return FULL;
        }
        Device device = devices[number];
        device.begin(f, b);
        device.ringPage = alloc(f);
        device.ringEntry = grant(f, b, device.ringPage, WRITE);
        device.ringHandle = map(b, f, device.ringEntry, true);
        device.frontPort = open(f, b);
        device.backPort = bind(b, f, device.frontPort);
        return number;
    }

    public int submit(int device, boolean writing, int sector, int v) {
        int code = deviceCode(device);
        if (code != DONE) {
            return code;
        }
        if (sector < 0 || sector >= SECTOR_COUNT) {
            return BAD_ARGUMENT;
        }
        Device dev = devices[device];
        if (dev.underway() >= SLOT_COUNT || !canGrantNewPage(dev.front)) {
            return FULL;
        }
        int p = alloc(dev.front);
        if (writing) {
            store(dev.front, p, DATA_WORD, v);
        }
        int ref = grant(dev.front, dev.back, p, writing ? READ : WRITE);
        int request = sector + (writing ? WRITING_BIT : 0) + (ref << ENTRY_SHIFT);
        return post(dev, p, ref, request);
    }

    public int serve(int device) {
        int code = deviceCode(device);
        if (code != DONE) {
            return code;
        }
        Device dev = devices[device];
        int[] ring = pages[dev.ringPage].words;
        // As longs: a forged word far off must not wrap round into the good range.
        long n = (long) ring[REQUESTS_WORD] - (long) dev.taken;
        if (n == 0) {
            return IDLE;
        }
        if (n < 1 || n > SLOT_COUNT) {
            return BAD_RING;
        }
        int slot = dev.taken % SLOT_COUNT;
        int status = carryOut(dev, ring[FIRST_REQUEST_WORD + slot]);
        // The request may have named the ring page itself, so the ring's words are stored after it.
        ring[FIRST_RESPONSE_WORD + slot] = status;
        dev.taken++;
        ring[RESPONSES_WORD] = dev.taken;
        send(dev.back, dev.backPort);
        return status;
    }

    public long reap(int device) {
        int code = deviceCode(device);
        if (code != DONE) {
            return code;
        }
        Device dev = devices[device];
        int[] ring = pages[dev.ringPage].words;
        long n = (long) ring[RESPONSES_WORD] - (long) dev.reaped;
        if (n == 0) {
            return IDLE;
        }
        if (n < 1 || n > dev.underway()) {
            return BAD_RING;
        }
        int slot = dev.reaped % SLOT_COUNT;
        int status = ring[FIRST_RESPONSE_WORD + slot];
        dev.reaped++;
        long data = load(dev.front, dev.notedPages[slot], DATA_WORD);
        end(dev.front, dev.notedEntries[slot]);
        free(dev.front, dev.notedPages[slot]);
        return status != 0 ? FAILED : data;
    }

    public long look(int what, int a, int b) {
        switch (what) {
            case 0:
                return isDomain(a) ? domains[a].state : NOTHING;
            case 1:
                return isPage(a) ? pages[a].owner : NOTHING;
            case 2:
                return isDomain(a) && domains[a].hasEntry(b) ? domains[a].entries[b].mappings : NOTHING;
            case 3:
                return isDomain(a) && domains[a].hasMapping(b) ? pageOf(domains[a].handles[b]) : NOTHING;
            case 4:
                return isDomain(a) ? pagesOwnedBy(a) : NOTHING;
            case 5:
                return isPresent(a) && b >= 0 && b < SECTOR_COUNT ? devices[a].disk[b] & WORD_MASK : NOTHING;
            case 6:
                return isPresent(a) ? devices[a].underway() : NOTHING;
            default:
                return NOTHING;
        }
    }

    private static boolean isDomain(int d) {
        return d >= 0 && d < DOMAIN_COUNT;
    }

    private static boolean isOtherDomain(int d, int t) {
        return isDomain(t) && t != d;
    }

    private static boolean isPage(int p) {
        return p >= 0 && p < PAGE_COUNT;
    }

    private static boolean isPort(int port) {
        return port >= 0 && port < PORT_COUNT;
    }

    private boolean isLive(int d) {
        return isDomain(d) && domains[d].state == LIVE;
    }

    private boolean isPresent(int device) {
        return device >= 0 && device < DEVICE_COUNT && devices[device].present;
    }

    private boolean owns(int d, int p) {
        return isPage(p) && pages[p].owner == d;
    }

    private int pagesOwnedBy(int d) {
        int count = 0;
        for (int p = 0; p < PAGE_COUNT; p++) {
            if (pages[p].owner == d) {
                count++;
            }
        }
        return count;
    }

    private int pageToGet(int d) {
        return pagesOwnedBy(d) >= PAGES_PER_DOMAIN ? NOTHING : leastFreePage();
    }

    private int leastFreePage() {
        for (int p = 0; p < PAGE_COUNT; p++) {
            if (pages[p].owner == NOTHING) {
                return p;
            }
        }
        return NOTHING;
    }

    private int accessCode(int d, int p, int w, boolean writing) {
        if (!isLive(d)) {
            return BAD_DOMAIN;
        }
        if (!isPage(p) || w < 0 || w >= WORD_COUNT) {
            return BAD_ARGUMENT;
        }
        return owns(d, p) || hasMappingOf(d, p, writing) ? DONE : NOT_YOURS;
    }

    private boolean hasMappingOf(int d, int p, boolean writing) {
        Handle[] handles = domains[d].handles;
        for (int h = 0; h < HANDLE_COUNT; h++) {
            if (!handles[h].isFree() && (handles[h].writing || !writing) && pageOf(handles[h]) == p) {
                return true;
            }
        }
        return false;
    }

    private Entry entryOf(Handle mapping) {
        return domains[mapping.from].entries[mapping.ref];
    }

    private int pageOf(Handle mapping) {
        return entryOf(mapping).page;
    }

    private Port peerOf(Port joined) {
        return domains[joined.other].ports[joined.otherPort];
    }

    private void takeAway(Handle mapping) {
        int from = mapping.from;
        Entry entry = entryOf(mapping);
        mapping.clear();
        entry.mappings--;
        if (domains[from].state == DYING && !entry.isMapped()) {
            release(from, entry);
        }
    }

    private void release(int d, Entry entry) {
        int p = entry.page;
        entry.clear();
        if (!domains[d].hasMappedEntryWith(p)) {
            pages[p].owner = NOTHING;
        }
        buryIfPageless(d);
    }

    private void buryIfPageless(int d) {
        if (pagesOwnedBy(d) == 0) {
            domains[d].state = NONE;
        }
    }

    private void removeDevicesOf(int d) {
        for (int i = 0; i < DEVICE_COUNT; i++) {
            if (devices[i].front == d || devices[i].back == d) {
                devices[i].present = false;
            }
        }
    }

    private void takeAwayMappingsOf(int d) {
        Handle[] handles = domains[d].handles;
        for (int h = 0; h < HANDLE_COUNT; h++) {
            if (!handles[h].isFree()) {
                takeAway(handles[h]);
            }
        }
    }

    private void closePortsOf(int d) {
        Port[] ports = domains[d].ports;
        for (int i = 0; i < PORT_COUNT; i++) {
            if (ports[i].state == JOINED) {
                peerOf(ports[i]).close();
            }
            ports[i].close();
        }
    }

    private void freeUnmappedPagesOf(int d) {
        for (int p = 0; p < PAGE_COUNT; p++) {
            if (pages[p].owner == d && !domains[d].hasMappedEntryWith(p)) {
                pages[p].owner = NOTHING;
            }
        }
    }

    private int leastAbsentDevice() {
        for (int i = 0; i < DEVICE_COUNT; i++) {
            if (!devices[i].present) {
                return i;
            }
        }
        return NOTHING;
    }

    private boolean canGrantNewPage(int d) {
        return pageToGet(d) != NOTHING && domains[d].leastFreeEntry() != NOTHING;
    }

    private boolean hasRoomForFront(int f) {
        return canGrantNewPage(f) && domains[f].leastClosedPort() != NOTHING;
    }

    private boolean hasRoomForBack(int b) {
        return domains[b].leastFreeHandle() != NOTHING && domains[b].leastClosedPort() != NOTHING;
    }

    private int deviceCode(int device) {
        if (!isPresent(device)) {
            return NO_DEVICE;
        }
        return isWhole(devices[device]) ? DONE : BROKEN;
    }

    private boolean isWhole(Device dev) {
        Handle handle = domains[dev.back].handles[dev.ringHandle];
        return handle.from == dev.front
                && handle.ref == dev.ringEntry
                && handle.writing
                && pageOf(handle) == dev.ringPage;
    }

    private int post(Device dev, int p, int ref, int request) {
        int number = dev.posted;
        int slot = number % SLOT_COUNT;
        int[] ring = pages[dev.ringPage].words;
        dev.notedPages[slot] = p;
        dev.notedEntries[slot] = ref;
        ring[FIRST_REQUEST_WORD + slot] = request;
        dev.posted++;
        ring[REQUESTS_WORD] = dev.posted;
        send(dev.front, dev.frontPort);
        return number;
    }

    private int carryOut(Device dev, int request) {
        int sector = request & SECTOR_MASK;
        boolean writing = (request & WRITING_BIT) != 0;
        // To write the sector the back only reads the front's page, and the other way round.
        int h = map(dev.back, dev.front, request >> ENTRY_SHIFT, !writing);
        if (h < 0) {
            return h;
        }
        int[] words = pages[pageOf(domains[dev.back].handles[h])].words;
        if (writing) {
            dev.disk[sector] = words[DATA_WORD];
        } else {
            words[DATA_WORD] = dev.disk[sector];
        }
        unmap(dev.back, h);
        return DONE;
    }

    private static final class Page {
        int owner = NOTHING;
        final int[] words = new int[WORD_COUNT];

        void wipe() {
            for (int w = 0; w < WORD_COUNT; w++) {
                words[w] = 0;
            }
        }
    }

    /** A free entry has the target NOTHING; a free or TRANSFER entry has the page NOTHING. */
    private static final class Entry {
        int target = NOTHING;
        int kind = READ;
        int page = NOTHING;
        int mappings = 0;

        boolean isFree() {
            return target == NOTHING;
        }

        boolean isMapped() {
            return mappings > 0;
        }

        void fill(int newTarget, int newKind, int newPage) {
            target = newTarget;
            kind = newKind;
            page = newPage;
        }

        void clear() {
            fill(NOTHING, READ, NOTHING);
        }
    }

    /** A free handle is one from the domain NOTHING. */
    private static final class Handle {
        int from = NOTHING;
        int ref = NOTHING;
        boolean writing = false;

        boolean isFree() {
            return from == NOTHING;
        }

        void fill(int newFrom, int newRef, boolean newWriting) {
            from = newFrom;
            ref = newRef;
            writing = newWriting;
        }

        void clear() {
            fill(NOTHING, NOTHING, false);
        }
    }

    private static final class Port {
        int state = CLOSED;
        int other = NOTHING;
        int otherPort = NOTHING;
        boolean pending = false;

        boolean isWaitingFor(int d) {
            return state == WAITING && other == d;
        }

        void waitFor(int t) {
            become(WAITING, t, NOTHING);
        }

        void joinTo(int t, int port) {
            become(JOINED, t, port);
        }

        void close() {
            become(CLOSED, NOTHING, NOTHING);
        }

        private void become(int newState, int newOther, int newOtherPort) {
            state = newState;
            other = newOther;
            otherPort = newOtherPort;
            pending = false;
        }
    }

    private static final class Domain {
        int state = NONE;
        final Entry[] entries = new Entry[ENTRY_COUNT];
        final Handle[] handles = new Handle[HANDLE_COUNT];
        final Port[] ports = new Port[PORT_COUNT];

        Domain() {
            for (int i = 0; i < ENTRY_COUNT; i++) {
                entries[i] = new Entry();
            }
            for (int i = 0; i < HANDLE_COUNT; i++) {
                handles[i] = new Handle();
            }
            for (int i = 0; i < PORT_COUNT; i++) {
                ports[i] = new Port();
            }
        }

        boolean hasEntry(int ref) {
            return ref >= 0 && ref < ENTRY_COUNT && !entries[ref].isFree();
        }

        boolean hasMapping(int h) {
            return h >= 0 && h < HANDLE_COUNT && !handles[h].isFree();
        }

        boolean hasEntryWith(int p) {
            for (int i = 0; i < ENTRY_COUNT; i++) {
                if (entries[i].page == p) {
                    return true;
                }
            }
            return false;
        }

        boolean hasMappedEntryWith(int p) {
            for (int i = 0; i < ENTRY_COUNT; i++) {
                if (entries[i].page == p && entries[i].isMapped()) {
                    return true;
                }
            }
            return false;
        }

        int leastFreeEntry() {
            for (int i = 0; i < ENTRY_COUNT; i++) {
                if (entries[i].isFree()) {
                    return i;
                }
            }
            return NOTHING;
        }

        int leastFreeHandle() {
            for (int i = 0; i < HANDLE_COUNT; i++) {
                if (handles[i].isFree()) {
                    return i;
                }
            }
            return NOTHING;
        }

        int leastClosedPort() {
            for (int i = 0; i < PORT_COUNT; i++) {
                if (ports[i].state == CLOSED) {
                    return i;
                }
            }
            return NOTHING;
        }

        void clearUnmappedEntries() {
            for (int i = 0; i < ENTRY_COUNT; i++) {
                if (!entries[i].isMapped()) {
                    entries[i].clear();
                }
            }
        }
    }

    private static final class Device {
        boolean present = false;
        int front = NOTHING;
        int back = NOTHING;
        int ringPage = NOTHING;
        int ringEntry = NOTHING;
        int ringHandle = NOTHING;
        int frontPort = NOTHING;
        int backPort = NOTHING;
        int posted = 0;
        int reaped = 0;
        int taken = 0;
        final int[] notedPages = new int[SLOT_COUNT];
        final int[] notedEntries = new int[SLOT_COUNT];
        final int[] disk = new int[SECTOR_COUNT];

        void begin(int f, int b) {
            present = true;
            front = f;
            back = b;
            posted = 0;
            reaped = 0;
            taken = 0;
            for (int s = 0; s < SECTOR_COUNT; s++) {
                disk[s] = 0;
            }
        }

        int underway() {
            return posted - reaped;
        }
    }
}
