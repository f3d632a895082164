/** Promises 17 (attach), 18 (submit), 19 (serve) and 20 (reap). */
public final class DevicesTest {
    private static final String TWO = "create = 0; create = 1";
    private static final String THREE = TWO + "; create = 2";
    private static final String RING = TWO + "; attach 0 1 = 0";

    private DevicesTest() {
    }

    public static void main(String[] args) {
        Runs t = new Runs();
        attach(t);
        attachFull(t);
        submit(t);
        submitRefused(t);
        broken(t);
        serve(t);
        serveForged(t);
        reap(t);
        reapForged(t);
        reapRefusals(t);
        t.finish();
    }

    private static void attach(Runs t) {
        t.run("17: takes the least of everything", TWO,
                "alloc 0 = 0; alloc 1 = 1; grant 0 1 0 0 = 0; map 1 0 0 false = 0; open 0 1 = 0; open 1 0 = 0",
                "open 1 0 = 1; attach 0 1 = 0; look 1 2 0 = 0; look 2 0 1 = 1; look 3 1 1 = 2; look 6 0 0 = 0",
                "load 0 2 0 = 0; load 0 2 7 = 0; store 1 2 7 5 = 0; load 0 2 7 = 5; end 0 1 = BUSY",
                "send 0 1 = 1; next 1 = 2; send 1 2 = 1; next 0 = 1; send 0 0 = BAD_PORT");
        t.run("17: the ring page comes wiped, the disk too", TWO,
                "alloc 0 = 0; store 0 0 0 3 = 0; store 0 0 1 2 = 0; free 0 0 = 0; attach 0 1 = 0; load 1 0 0 = 0",
                "load 1 0 1 = 0; look 5 0 0 = 0; look 5 0 7 = 0; serve 0 = IDLE; reap 0 = IDLE");
        t.run("17: wrong arguments", TWO,
                "attach 0 0 = BAD_ARGUMENT; attach 0 2 = BAD_DOMAIN; attach 2 0 = BAD_DOMAIN; attach 2 2 = BAD_DOMAIN",
                "attach -1 0 = BAD_DOMAIN; attach 0 5 = BAD_DOMAIN; look 6 0 0 = -1; attach 1 0 = 0");
        t.run("17: three devices, the least absent one again", THREE, "create = 3",
                "attach 0 1 = 0; attach 2 3 = 1; attach 1 0 = 2; attach 0 1 = FULL; look 4 0 0 = 1; attach 0 0 = BAD_ARGUMENT",
                "destroy 3 = 0; attach 0 2 = 1; attach 0 1 = FULL");
    }

    private static void attachFull(Runs t) {
        t.run("17: FULL with six pages", TWO,
                "alloc 0 = 0; alloc 0 = 1; alloc 0 = 2; alloc 0 = 3; alloc 0 = 4; alloc 0 = 5; attach 0 1 = FULL",
                "attach 1 0 = 0; free 0 5 = 0; attach 0 1 = 1; look 1 5 0 = 0");
        t.run("17: FULL when no page is free", THREE, "create = 3; create = 4",
                "alloc 0 = 0; alloc 0 = 1; alloc 0 = 2; alloc 0 = 3; alloc 0 = 4; alloc 0 = 5",
                "alloc 1 = 6; alloc 1 = 7; alloc 1 = 8; alloc 1 = 9; alloc 1 = 10; alloc 1 = 11",
                "alloc 2 = 12; alloc 2 = 13; alloc 2 = 14; alloc 2 = 15; alloc 2 = 16; alloc 2 = 17",
                "alloc 3 = 18; alloc 3 = 19; attach 4 3 = FULL; look 6 0 0 = -1; free 0 3 = 0; attach 4 3 = 0; look 1 3 0 = 4");
        t.run("17: FULL without a free entry", TWO,
                "grant 0 1 0 2 = 0; grant 0 1 0 2 = 1; grant 0 1 0 2 = 2; grant 0 1 0 2 = 3; grant 0 1 0 2 = 4",
                "grant 0 1 0 2 = 5; attach 0 1 = FULL; look 4 0 0 = 0; alloc 0 = 0; end 0 5 = 0; attach 0 1 = 0",
                "look 1 1 0 = 0; look 2 0 5 = 1");
        t.run("17: FULL without a free handle of the back", TWO, "alloc 0 = 0; grant 0 1 0 0 = 0",
                "map 1 0 0 false = 0; map 1 0 0 false = 1; map 1 0 0 false = 2; map 1 0 0 false = 3; map 1 0 0 false = 4",
                "attach 0 1 = FULL; look 4 0 0 = 1; look 2 0 1 = -1; unmap 1 4 = 0; attach 0 1 = 0; look 3 1 4 = 1");
        t.run("17: FULL without a closed port of the front", THREE,
                "open 0 2 = 0; open 0 2 = 1; open 0 2 = 2; open 0 2 = 3; attach 0 1 = FULL; look 4 0 0 = 0",
                "look 2 0 0 = -1; look 3 1 0 = -1; open 1 0 = 0; attach 1 0 = FULL");
        t.run("17: FULL without a closed port of the back", THREE,
                "open 1 2 = 0; open 1 2 = 1; open 1 2 = 2; open 1 2 = 3; attach 0 1 = FULL; look 4 0 0 = 0",
                "look 2 0 0 = -1; look 3 1 0 = -1; open 0 1 = 0; bind 2 1 3 = 0; destroy 2 = 0; attach 0 1 = 0",
                "send 1 3 = 1; next 0 = 1");
    }

    private static void submit(Runs t) {
        t.run("18: what a request to write puts in", RING,
                "submit 0 true 5 77 = 0; look 1 1 0 = 0; load 0 1 0 = 77; look 2 0 1 = 0; load 0 0 0 = 1",
                "load 0 0 1 = 0; load 0 0 2 = 29; load 0 0 3 = 0; look 6 0 0 = 1; next 1 = 0; next 1 = IDLE; next 0 = IDLE",
                "map 1 0 1 true = READ_ONLY; map 1 0 1 false = 1; load 1 1 0 = 77");
        t.run("18: what a request to read puts in", RING,
                "submit 0 false 7 77 = 0; load 0 1 0 = 0; load 0 0 2 = 23; map 1 0 1 true = 1; next 1 = 0");
        t.run("18: slots go round, numbers go on", RING,
                "submit 0 true 0 1 = 0; submit 0 false 1 0 = 1; submit 0 true 2 3 = 2; load 0 0 2 = 24; load 0 0 3 = 33",
                "load 0 0 4 = 58; load 0 0 0 = 3; submit 0 true 3 4 = FULL; look 6 0 0 = 3; serve 0 = 0; submit 0 true 3 4 = FULL",
                "reap 0 = 1; submit 0 true 3 4 = 3; load 0 0 2 = 27; load 0 0 0 = 4; look 6 0 0 = 3");
        t.run("18: a used page comes wiped to a request to read", RING,
                "submit 0 true 0 9 = 0; serve 0 = 0; reap 0 = 9; submit 0 false 1 5 = 1; load 0 1 0 = 0");
        t.run("18: POSTED is the front's own number", RING,
                "submit 0 true 0 1 = 0; store 1 0 0 7 = 0; submit 0 true 1 2 = 1; load 0 0 0 = 2");
        t.run("18: a request may wake a port that is PENDING already", RING,
                "send 0 0 = 1; submit 0 true 0 1 = 0; next 1 = 0; next 1 = IDLE");
        t.run("18: two devices with one front", THREE,
                "attach 0 1 = 0; attach 0 2 = 1; submit 1 true 4 8 = 0; submit 0 true 4 9 = 0; load 2 1 2 = 44",
                "load 1 0 2 = 60; serve 1 = 0; look 5 1 4 = 8; look 5 0 4 = 0; serve 0 = 0; look 5 0 4 = 9",
                "reap 0 = 9; reap 1 = 8");
    }

    private static void submitRefused(Runs t) {
        t.run("18: no device", RING,
                "submit -1 true 0 0 = NO_DEVICE; submit 3 true 0 0 = NO_DEVICE; submit 1 true 9 0 = NO_DEVICE");
        t.run("18: sectors", RING,
                "submit 0 true 8 0 = BAD_ARGUMENT; submit 0 true -1 0 = BAD_ARGUMENT; submit 0 false 8 0 = BAD_ARGUMENT",
                "look 4 0 0 = 1; next 1 = IDLE; submit 0 true 7 0 = 0; submit 0 true 0 0 = 1; submit 0 true 1 0 = 2",
                "submit 0 true 8 0 = BAD_ARGUMENT; submit 0 true 0 0 = FULL");
        t.run("18: FULL with six pages", RING,
                "alloc 0 = 1; alloc 0 = 2; alloc 0 = 3; alloc 0 = 4; alloc 0 = 5; submit 0 true 0 1 = FULL",
                "next 1 = IDLE; load 0 0 0 = 0; look 6 0 0 = 0; free 0 4 = 0; submit 0 true 0 1 = 0; load 0 4 0 = 1");
        t.run("18: FULL without a free entry, and no page is lost", RING,
                "grant 0 1 0 2 = 1; grant 0 1 0 2 = 2; grant 0 1 0 2 = 3; grant 0 1 0 2 = 4; grant 0 1 0 2 = 5",
                "submit 0 true 0 1 = FULL; look 4 0 0 = 1; end 0 3 = 0; submit 0 true 0 1 = 0; load 0 0 2 = 56");
        t.run("18: FULL when no page is free", THREE, "create = 3; create = 4; attach 0 1 = 0",
                "alloc 1 = 1; alloc 1 = 2; alloc 1 = 3; alloc 1 = 4; alloc 1 = 5; alloc 1 = 6",
                "alloc 2 = 7; alloc 2 = 8; alloc 2 = 9; alloc 2 = 10; alloc 2 = 11; alloc 2 = 12",
                "alloc 3 = 13; alloc 3 = 14; alloc 3 = 15; alloc 3 = 16; alloc 3 = 17; alloc 3 = 18",
                "alloc 4 = 19; submit 0 true 0 1 = FULL; look 6 0 0 = 0; free 4 19 = 0; submit 0 true 0 1 = 0");
    }

    private static void broken(Runs t) {
        t.run("18 to 20: BROKEN without the ring mapping, and before BAD_ARGUMENT", RING,
                "unmap 1 0 = 0; submit 0 true 9 0 = BROKEN; submit 0 true 0 0 = BROKEN; serve 0 = BROKEN; reap 0 = BROKEN",
                "look 6 0 0 = 0; look 5 0 0 = 0; map 1 0 0 true = 0; submit 0 true 0 0 = 0");
        t.run("BROKEN while the mapping is not for writing", RING,
                "unmap 1 0 = 0; map 1 0 0 false = 0; serve 0 = BROKEN; map 1 0 0 true = 1; serve 0 = BROKEN",
                "unmap 1 0 = 0; map 1 0 0 true = 0; serve 0 = IDLE");
        t.run("BROKEN while the ring handle maps another entry with the ring page", RING,
                "grant 0 1 0 1 = 1; unmap 1 0 = 0; map 1 0 1 true = 0; serve 0 = BROKEN; unmap 1 0 = 0; map 1 0 0 true = 0",
                "serve 0 = IDLE");
        t.run("BROKEN while the ring handle maps the same entry number of another domain", THREE, "attach 0 1 = 0",
                "alloc 2 = 1; grant 2 1 1 1 = 0; unmap 1 0 = 0; map 1 2 0 true = 0; serve 0 = BROKEN; reap 0 = BROKEN");
        t.run("BROKEN while the ring entry has another page", RING,
                "alloc 0 = 1; unmap 1 0 = 0; end 0 0 = 0; grant 0 1 1 1 = 0; map 1 0 0 true = 0; serve 0 = BROKEN",
                "unmap 1 0 = 0; end 0 0 = 0; grant 0 1 0 1 = 0; map 1 0 0 true = 0; serve 0 = IDLE");
        t.run("whole again with the ring page allocated anew", RING,
                "submit 0 true 1 5 = 0; unmap 1 0 = 0; end 0 0 = 0; free 0 0 = 0; alloc 0 = 0; grant 0 1 0 1 = 0",
                "map 1 0 0 true = 0; serve 0 = IDLE; look 6 0 0 = 1; submit 0 true 2 6 = 1; load 0 0 0 = 2",
                "serve 0 = 0; load 0 0 0 = 0; load 0 0 1 = 1; look 5 0 1 = 0; look 5 0 2 = 0");
    }

    private static void serve(Runs t) {
        t.run("19: writes and reads sectors, and answers in the ring", RING,
                "submit 0 true 2 -3 = 0; next 1 = 0; serve 0 = 0; look 5 0 2 = 4294967293; load 0 0 1 = 1; load 0 0 5 = 0",
                "next 0 = 0; next 0 = IDLE; next 1 = IDLE; look 3 1 1 = -1; look 2 0 1 = 0; serve 0 = IDLE",
                "submit 0 false 2 0 = 1; serve 0 = 0; load 0 2 0 = 4294967293; load 0 0 1 = 2; look 2 0 2 = 0");
        t.run("19: no device", RING, "serve -1 = NO_DEVICE; serve 3 = NO_DEVICE; serve 1 = NO_DEVICE; serve 0 = IDLE");
        t.run("19: a request served in its order", RING,
                "submit 0 true 0 1 = 0; submit 0 true 0 2 = 1; submit 0 true 0 3 = 2; serve 0 = 0; look 5 0 0 = 1",
                "serve 0 = 0; look 5 0 0 = 2; serve 0 = 0; look 5 0 0 = 3; serve 0 = IDLE; load 0 0 1 = 3");
        t.run("19: FULL as the status", RING, "submit 0 true 2 5 = 0",
                "map 1 0 1 false = 1; map 1 0 1 false = 2; map 1 0 1 false = 3; map 1 0 1 false = 4; serve 0 = FULL",
                "load 0 0 5 = 4294967289; load 0 0 1 = 1; look 5 0 2 = 0; next 0 = 0; serve 0 = IDLE; reap 0 = FAILED");
        t.run("19: the mapping of serve takes the last handle and gives it back", RING, "submit 0 true 2 5 = 0",
                "map 1 0 1 false = 1; map 1 0 1 false = 2; map 1 0 1 false = 3; serve 0 = 0; look 3 1 4 = -1; look 2 0 1 = 3");
        t.run("19: the mapping of serve may be at handle 0", TWO,
                "alloc 0 = 0; grant 0 1 0 0 = 0; map 1 0 0 false = 0; attach 0 1 = 0; unmap 1 0 = 0; submit 0 true 2 5 = 0",
                "serve 0 = 0; look 5 0 2 = 5; load 0 1 1 = 1; look 3 1 0 = -1; look 3 1 1 = 1; look 2 0 2 = 0; reap 0 = 5");
    }

    private static void serveForged(Runs t) {
        t.run("19: BAD_RING", RING,
                "store 0 0 0 4 = 0; serve 0 = BAD_RING; store 0 0 0 -1 = 0; serve 0 = BAD_RING; store 0 0 0 -2147483648 = 0",
                "serve 0 = BAD_RING; store 0 0 0 2147483647 = 0; serve 0 = BAD_RING; load 0 0 1 = 0; next 0 = IDLE",
                "store 0 0 0 3 = 0; store 0 0 2 16 = 0; serve 0 = BAD_REF; load 0 0 1 = 1");
        t.run("19: BAD_RING does not wrap round", RING,
                "submit 0 true 0 1 = 0; serve 0 = 0; store 0 0 0 -2147483648 = 0; serve 0 = BAD_RING; store 0 0 0 0 = 0",
                "serve 0 = BAD_RING; store 0 0 0 5 = 0; serve 0 = BAD_RING; store 0 0 0 1 = 0; serve 0 = IDLE");
        t.run("19: a request of the front's own hand", RING,
                "alloc 0 = 1; store 0 1 0 6 = 0; grant 0 1 1 0 = 1; store 0 0 2 28 = 0; store 0 0 0 1 = 0; serve 0 = 0",
                "look 5 0 4 = 6; load 0 0 1 = 1; reap 0 = BAD_RING; look 6 0 0 = 0");
        t.run("19: READ_ONLY as the status", RING,
                "submit 0 true 2 5 = 0; store 0 0 2 18 = 0; serve 0 = READ_ONLY; load 0 0 5 = 4294967290; load 0 1 0 = 5",
                "next 0 = 0; reap 0 = FAILED");
        t.run("19: BAD_REF as the status", THREE, "attach 0 1 = 0",
                "grant 0 2 0 1 = 1; grant 0 1 0 2 = 2; store 0 0 0 3 = 0; store 0 0 2 24 = 0; store 0 0 3 40 = 0",
                "store 0 0 4 104 = 0; serve 0 = BAD_REF; serve 0 = BAD_REF; serve 0 = BAD_REF; load 0 0 7 = 4294967291",
                "store 0 0 0 5 = 0; store 0 0 2 -1 = 0; store 0 0 3 -2147483648 = 0; serve 0 = BAD_REF; serve 0 = BAD_REF",
                "load 0 0 1 = 5; look 5 0 0 = 0; look 5 0 7 = 0");
        t.run("19: bits above the entry's count", RING,
                "submit 0 true 3 4 = 0; store 0 0 2 1073741851 = 0; serve 0 = BAD_REF; look 5 0 3 = 0");
        t.run("19: the ring page itself as a request's page", RING,
                "store 0 0 0 1 = 0; store 0 0 2 13 = 0; serve 0 = 0; look 5 0 5 = 1; store 0 0 0 2 = 0; store 0 0 3 4 = 0",
                "serve 0 = 0; load 0 0 0 = 0; load 0 0 1 = 2; serve 0 = BAD_RING");
        t.run("19: a kind WRITE entry serves to write a sector too", RING,
                "alloc 0 = 1; store 0 1 0 6 = 0; grant 0 1 1 1 = 1; store 0 0 2 25 = 0; store 0 0 0 1 = 0; serve 0 = 0",
                "look 5 0 1 = 6");
        t.run("19: TAKEN is the back's own number", RING,
                "submit 0 true 0 1 = 0; serve 0 = 0; store 1 0 1 0 = 0; reap 0 = IDLE; submit 0 true 0 2 = 1; serve 0 = 0",
                "load 0 0 1 = 2; reap 0 = 1; reap 0 = 2");
    }

    private static void reap(Runs t) {
        t.run("20: takes the response and clears up", RING,
                "submit 0 true 2 -3 = 0; reap 0 = IDLE; serve 0 = 0; reap 0 = 4294967293; look 6 0 0 = 0; look 1 1 0 = -1",
                "look 2 0 1 = -1; reap 0 = IDLE; submit 0 false 2 0 = 1; serve 0 = 0; reap 0 = 4294967293; look 4 0 0 = 1");
        t.run("20: in the order of the requests", RING,
                "submit 0 true 0 1 = 0; submit 0 true 1 2 = 1; submit 0 true 2 3 = 2; serve 0 = 0; serve 0 = 0; serve 0 = 0",
                "reap 0 = 1; submit 0 false 2 0 = 3; reap 0 = 2; reap 0 = 3; reap 0 = IDLE; serve 0 = 0; reap 0 = 3");
        t.run("20: does not take a port's PENDING away", RING,
                "submit 0 true 0 1 = 0; serve 0 = 0; reap 0 = 1; next 0 = 0; next 1 = 0");
        t.run("20: no device", RING, "reap -1 = NO_DEVICE; reap 3 = NO_DEVICE; reap 1 = NO_DEVICE; reap 0 = IDLE");
    }

    private static void reapForged(Runs t) {
        t.run("20: BAD_RING", RING,
                "store 1 0 1 1 = 0; reap 0 = BAD_RING; submit 0 true 0 5 = 0; store 1 0 1 2 = 0; reap 0 = BAD_RING",
                "store 1 0 1 -1 = 0; reap 0 = BAD_RING; store 1 0 1 -2147483648 = 0; reap 0 = BAD_RING; look 6 0 0 = 1",
                "store 1 0 1 1 = 0; reap 0 = 5; store 1 0 1 -2147483648 = 0; reap 0 = BAD_RING; store 1 0 1 0 = 0",
                "reap 0 = BAD_RING; store 1 0 1 1 = 0; reap 0 = IDLE; look 4 0 0 = 1");
        t.run("20: a status that is not 0", RING,
                "submit 0 true 0 5 = 0; submit 0 true 0 6 = 1; store 1 0 1 2 = 0; store 1 0 5 7 = 0; store 1 0 6 -1 = 0",
                "reap 0 = FAILED; look 6 0 0 = 1; look 1 1 0 = -1; look 2 0 1 = -1; reap 0 = FAILED; look 4 0 0 = 1");
        t.run("20: the status stands in the request's own word", RING,
                "submit 0 true 0 5 = 0; submit 0 true 0 6 = 1; store 1 0 1 2 = 0; store 1 0 6 7 = 0; reap 0 = 5",
                "reap 0 = FAILED");
        t.run("20: a request not yet served may be reaped when the back says so", RING,
                "submit 0 true 0 5 = 0; submit 0 true 1 6 = 1; submit 0 true 2 7 = 2; store 1 0 1 3 = 0; reap 0 = 5",
                "reap 0 = 6; reap 0 = 7; reap 0 = IDLE; serve 0 = BAD_REF");
    }

    private static void reapRefusals(Runs t) {
        t.run("20: end and free refused, the page stays", RING,
                "submit 0 true 0 5 = 0; map 1 0 1 false = 1; serve 0 = 0; reap 0 = 5; look 2 0 1 = 1; look 1 1 0 = 0",
                "unmap 1 1 = 0; end 0 1 = 0; free 0 1 = 0");
        t.run("20: end refused, free not hindered", RING,
                "submit 0 true 0 5 = 0; serve 0 = 0; end 0 1 = 0; reap 0 = 5; look 1 1 0 = -1");
        t.run("20: free refused for another entry", RING,
                "submit 0 true 0 5 = 0; grant 0 2 1 0 = 2; serve 0 = 0; reap 0 = 5; look 2 0 1 = -1; look 1 1 0 = 0");
        t.run("20: load refused, its code is the answer", RING,
                "submit 0 true 0 5 = 0; serve 0 = 0; end 0 1 = 0; free 0 1 = 0; reap 0 = NOT_YOURS; look 6 0 0 = 0");
        t.run("20: a status that is not 0 comes before load's code", RING,
                "submit 0 true 0 5 = 0; end 0 1 = 0; free 0 1 = 0; serve 0 = BAD_REF; reap 0 = FAILED");
        t.run("20: load refused, end not hindered", RING,
                "submit 0 true 0 5 = 0; serve 0 = 0; end 0 1 = 0; free 0 1 = 0; grant 0 2 0 2 = 1; reap 0 = NOT_YOURS",
                "look 2 0 1 = -1");
        t.run("20: load through a mapping, when the page is another's now", RING,
                "submit 0 true 0 5 = 0; serve 0 = 0; end 0 1 = 0; free 0 1 = 0; alloc 1 = 1; store 1 1 0 8 = 0",
                "grant 1 0 1 0 = 0; map 0 1 0 false = 0; reap 0 = 8; look 1 1 0 = 1; look 2 1 0 = 1");
    }
}
