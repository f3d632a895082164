/** Promise 20, sentence by sentence: the edges. */
public final class ReapEdgesTest {
    private static final String RING = Worlds.RING;

    /** Request 0 wrote 5 to sector 0, with page 1 and entry 1, and is served. */
    private static final String SERVED = RING + "; submit 0 true 0 5 = 0; serve 0 = 0";

    private ReapEdgesTest() {
    }

    public static void main(String[] args) {
        Runs t = new Runs();
        refused(t);
        howManyWait(t);
        order(t);
        status(t);
        answer(t);
        notes(t);
        refusedSteps(t);
        t.finish();
    }

    private static void refused(Runs t) {
        t.outside("20: \"NO_DEVICE ... as with submit\": none of 0 .. 2", -1, 3, Worlds.THREE_DEVICES,
                "reap # = NO_DEVICE");
        t.run("20: \"NO_DEVICE\": absent, never attached or no more", SERVED, "reap 1 = NO_DEVICE",
                "reap 2 = NO_DEVICE; destroy 1 = 0; reap 0 = NO_DEVICE");
        t.run("20: the first and the last device", Worlds.THREE_DEVICES, "submit 0 true 0 5 = 0",
                "submit 2 true 0 6 = 0; serve 0 = 0; serve 2 = 0; reap 1 = IDLE; reap 2 = 6; reap 0 = 5",
                "look 6 0 0 = 0; look 6 2 0 = 0");
        t.run("20: \"BROKEN as with submit\"", SERVED, "unmap 1 0 = 0; reap 0 = BROKEN; map 1 0 0 false = 0",
                "reap 0 = BROKEN; unmap 1 0 = 0; map 1 0 0 true = 0; reap 0 = 5");
    }

    /** For each REAPED and each number of requests under way: which counts of responses are taken, and which not. */
    private static void howManyWait(Runs t) {
        for (int reaped = 0; reaped < 5; reaped++) {
            for (int underWay = 0; underWay <= 3; underWay++) {
                String title = "20: \"n = word 1 of the ring page minus REAPED, reckoned exactly\", REAPED " + reaped
                        + ", POSTED - REAPED " + underWay;
                String before = RING + ";" + Worlds.rounds(0, reaped) + ";"
                        + Worlds.times("submit 0 true 0 9", reaped, underWay)
                        + "; store 1 0 " + (5 + reaped % 3) + " 0 = 0";
                for (int n = 1; n <= underWay; n++) {
                    t.run(title + ", \"1 .. POSTED - REAPED\"", before,
                            "store 1 0 1 " + (reaped + n) + " = 0; reap 0 = 9; look 6 0 0 = " + (underWay - 1));
                }
                t.run(title + ", \"IDLE when n is 0\"", before,
                        "store 1 0 1 " + reaped + " = 0; reap 0 = IDLE; look 6 0 0 = " + underWay);
                wrongCounts(t, title, before, reaped, underWay);
            }
        }
    }

    private static void wrongCounts(Runs t, String title, String before, int reaped, int underWay) {
        int[] wrong = {reaped - 1, reaped - 2, reaped - 3, reaped + underWay + 1, reaped + underWay + 2, reaped + 4,
            -reaped - 1, Integer.MIN_VALUE, Integer.MAX_VALUE, Integer.MIN_VALUE + reaped,
            Integer.MIN_VALUE + reaped + 1, Integer.MAX_VALUE - reaped, -1, -3};
        for (int word : wrong) {
            t.run(title + ", \"BAD_RING when it is not 1 .. POSTED - REAPED\"", before,
                    "store 1 0 1 " + word + " = 0; reap 0 = BAD_RING; look 6 0 0 = " + underWay);
        }
    }

    private static void order(Runs t) {
        t.run("20: NO_DEVICE before BROKEN and IDLE", RING, "unmap 1 0 = 0; destroy 1 = 0; reap 0 = NO_DEVICE",
                "reap 1 = NO_DEVICE");
        t.run("20: BROKEN before IDLE", RING, "unmap 1 0 = 0; reap 0 = BROKEN");
        t.run("20: BROKEN before BAD_RING", RING, "store 0 0 1 9 = 0; unmap 1 0 = 0; reap 0 = BROKEN",
                "store 0 0 1 -1 = 0; reap 0 = BROKEN");
        t.run("20: IDLE, not BAD_RING, when n is 0 and nothing is under way", RING, "reap 0 = IDLE",
                "store 1 0 1 1 = 0; reap 0 = BAD_RING");
        t.run("20: FAILED before what load would answer", SERVED, "end 0 1 = 0; free 0 1 = 0; store 1 0 5 -3 = 0",
                "reap 0 = FAILED");
    }

    private static void status(Runs t) {
        int[] wrong = {1, -1, 2, -5, -6, -7, -13, Integer.MIN_VALUE, Integer.MAX_VALUE, 256, 65536};
        for (int status : wrong) {
            t.run("20: \"Answers FAILED when the status is not 0\"", SERVED,
                    "store 1 0 5 " + status + " = 0; reap 0 = FAILED", "look 6 0 0 = 0; look 1 1 0 = -1",
                    "look 2 0 1 = -1; reap 0 = IDLE");
        }
        for (int reaped = 0; reaped < 7; reaped++) {
            String before = RING + ";" + Worlds.rounds(0, reaped) + "; submit 0 true 0 5 = " + reaped + "; serve 0 = 0";
            int word = 5 + reaped % 3;
            t.run("20: \"the status is word 5 + REAPED % 3 of the ring page\", REAPED " + reaped, before,
                    "store 1 0 " + word + " 1 = 0; reap 0 = FAILED");
            t.run("20: and no other word", before, "store 1 0 5 1 = 0; store 1 0 6 1 = 0; store 1 0 7 1 = 0",
                    "store 1 0 " + word + " 0 = 0; reap 0 = 5");
        }
        t.run("20: each kind of refused request is FAILED", RING, "submit 0 true 0 5 = 0; submit 0 true 0 6 = 1",
                "submit 0 true 0 7 = 2; end 0 1 = 0; store 0 0 3 32 = 0; serve 0 = BAD_REF; serve 0 = READ_ONLY",
                "map 1 0 3 false = 1; map 1 0 3 false = 2; map 1 0 3 false = 3; map 1 0 3 false = 4; serve 0 = FULL",
                "reap 0 = FAILED; reap 0 = FAILED; reap 0 = FAILED; look 6 0 0 = 0");
    }

    private static void answer(Runs t) {
        int[] values = {0, 1, Integer.MAX_VALUE, Integer.MIN_VALUE, Integer.MIN_VALUE + 1, -2, -1, -3, -13};
        for (int v : values) {
            long due = v & 0xFFFFFFFFL;
            t.run("20: \"otherwise what load answered\": without sign, written", RING,
                    "submit 0 true 7 " + v + " = 0; serve 0 = 0; reap 0 = " + due);
            t.run("20: \"otherwise what load answered\": without sign, read", RING,
                    "submit 0 true 7 " + v + " = 0; serve 0 = 0; reap 0 = " + due,
                    "submit 0 false 7 3 = 1; serve 0 = 0; reap 0 = " + due);
        }
        t.run("20: word 0 as it is at the time of reap", SERVED, "store 0 1 0 -9 = 0; store 0 1 1 4 = 0",
                "reap 0 = 4294967287; look 5 0 0 = 5");
    }

    private static void notes(Runs t) {
        t.run("20: \"REAPED grows by 1\"", RING, Worlds.times("submit 0 true 0 5", 0, 3), "serve 0 = 0; serve 0 = 0",
                "look 6 0 0 = 3; reap 0 = 5; look 6 0 0 = 2; reap 0 = 5; look 6 0 0 = 1; reap 0 = IDLE",
                "look 6 0 0 = 1");
        t.run("20: \"for request number REAPED with its noted page and entry\"", RING, "submit 0 true 0 5 = 0",
                "alloc 0 = 2; grant 0 1 2 2 = 2; submit 0 true 0 6 = 1; free 0 2 = 0; end 0 2 = 0",
                "submit 0 true 0 7 = 2; serve 0 = 0; serve 0 = 0; serve 0 = 0; reap 0 = 5; look 1 1 0 = -1",
                "look 2 0 1 = -1; look 1 3 0 = 0; look 1 2 0 = 0; reap 0 = 6; look 1 3 0 = -1; look 2 0 3 = -1",
                "look 1 2 0 = 0; look 2 0 2 = 0; reap 0 = 7; look 1 2 0 = -1; look 2 0 2 = -1");
        t.run("20: the note of a request stands until the third one after it", RING, Worlds.rounds(0, 2),
                Worlds.times("submit 0 true 0 8", 2, 3), "serve 0 = 0; serve 0 = 0; serve 0 = 0; reap 0 = 8",
                "look 1 1 0 = -1; reap 0 = 8; look 1 2 0 = -1; reap 0 = 8; look 1 3 0 = -1");
        t.run("20: \"end of the noted entry and free of the noted page\"", SERVED, "reap 0 = 5; look 2 0 1 = -1",
                "look 1 1 0 = -1; look 4 0 0 = 1; look 2 0 0 = 1; look 1 0 0 = 0");
        t.run("20: reap sends nothing and hears nothing", SERVED, "next 0 = 0; next 1 = 0; reap 0 = 5; next 0 = IDLE",
                "next 1 = IDLE");
        t.run("20: reap leaves the ring's words", SERVED, "reap 0 = 5; load 0 0 0 = 1; load 0 0 1 = 1",
                "load 0 0 2 = 24; load 0 0 5 = 0");
        t.same("20: the steps of reap", SERVED + "; reap 0 = 5; destroy 1 = 0",
                SERVED + "; load 0 1 0 = 5; end 0 1 = 0; free 0 1 = 0; destroy 1 = 0");
    }

    private static void refusedSteps(Runs t) {
        t.run("20: \"a refusal of one changes nothing and does not hinder the next\": load", SERVED, "end 0 1 = 0",
                "free 0 1 = 0; grant 0 1 0 2 = 1; reap 0 = NOT_YOURS; look 2 0 1 = -1; look 6 0 0 = 0");
        t.run("20: load refused: the page is another's", SERVED, "end 0 1 = 0; free 0 1 = 0; alloc 1 = 1",
                "store 1 1 0 4 = 0; reap 0 = NOT_YOURS; look 1 1 0 = 1; load 1 1 0 = 4");
        t.run("20: load refused: the page was given away", SERVED, "end 0 1 = 0; grant 1 0 0 2 = 0; give 0 1 1 0 = 0",
                "reap 0 = NOT_YOURS; look 1 1 0 = 1; load 1 1 0 = 5");
        t.run("20: end refused with BAD_REF: free is called all the same", SERVED, "end 0 1 = 0; reap 0 = 5",
                "look 1 1 0 = -1");
        t.run("20: end refused with BUSY: free is refused with BUSY", SERVED, "map 1 0 1 false = 1; reap 0 = 5",
                "look 2 0 1 = 1; look 1 1 0 = 0; look 6 0 0 = 0");
        t.run("20: end refused with BUSY: free of another page that the entry does not have", SERVED, "end 0 1 = 0",
                "grant 0 1 0 0 = 1; map 1 0 1 false = 1; reap 0 = 5; look 2 0 1 = 1; look 1 1 0 = -1");
        t.run("20: free refused with BUSY: the entry is ended all the same", SERVED, "grant 0 4 1 0 = 2; reap 0 = 5",
                "look 2 0 1 = -1; look 2 0 2 = 0; look 1 1 0 = 0");
        t.run("20: free refused with NOT_YOURS: the entry is ended all the same", SERVED, "end 0 1 = 0; free 0 1 = 0",
                "alloc 1 = 1; grant 0 4 0 1 = 1; reap 0 = NOT_YOURS; look 2 0 1 = -1; look 1 1 0 = 1");
        t.run("20: all three refused", SERVED, "end 0 1 = 0; free 0 1 = 0; reap 0 = NOT_YOURS; look 6 0 0 = 0",
                "reap 0 = IDLE; submit 0 true 0 5 = 1");
        t.run("20: FAILED ends and frees, too, as far as it goes", SERVED, "store 1 0 5 1 = 0; end 0 1 = 0",
                "reap 0 = FAILED; look 1 1 0 = -1; look 6 0 0 = 0");
        t.run("20: a page got anew under the noted number is freed", SERVED, "end 0 1 = 0; free 0 1 = 0; alloc 0 = 1",
                "store 0 1 0 3 = 0; reap 0 = 3; look 1 1 0 = -1");
        t.run("20: an entry granted anew under the noted number is ended", SERVED, "end 0 1 = 0; grant 0 4 0 0 = 1",
                "reap 0 = 5; look 2 0 1 = -1; look 1 1 0 = -1");
    }
}
