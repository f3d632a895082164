/** Rows that many runs begin with. */
final class Worlds {
    static final String TWO = creates(2);
    static final String THREE = creates(3);
    static final String FIVE = creates(5);

    /** 0, 1 and 2 are LIVE; 3 is DYING: its page 0 is in its entry 0, which 2 has mapped at handle 0; 4 is NONE. */
    static final String FADING =
            creates(4) + "; alloc 3 = 0; grant 3 2 0 1 = 0; map 2 3 0 true = 0; destroy 3 = 0";

    /** 0 is DYING with six pages in six MAPPED entries; 1 has five of the mappings, 2 has the sixth. */
    static final String FADING_WITH_SIX = THREE + ";" + allocs(0, 0, 6)
            + "; grant 0 1 0 0 = 0; grant 0 1 1 0 = 1; grant 0 1 2 0 = 2; grant 0 1 3 0 = 3; grant 0 1 4 0 = 4"
            + "; grant 0 2 5 0 = 5; map 1 0 0 false = 0; map 1 0 1 false = 1; map 1 0 2 false = 2"
            + "; map 1 0 3 false = 3; map 1 0 4 false = 4; map 2 0 5 false = 0; destroy 0 = 0";

    /** Pages 0 to 18 have owners: six each for 0, 1 and 2, one for 3, none for 4. */
    static final String ONE_PAGE_LEFT =
            FIVE + ";" + allocs(0, 0, 6) + ";" + allocs(1, 6, 6) + ";" + allocs(2, 12, 6) + "; alloc 3 = 18";
    static final String NO_PAGE_LEFT = ONE_PAGE_LEFT + "; alloc 3 = 19";

    /** Device 0 with the front 0 and the back 1: ring page 0, ring entry 0, ring handle 0, port 0 of each. */
    static final String RING = TWO + "; attach 0 1 = 0";

    /** Device 0 with the front 0 and the back 1, device 1 with 1 and 2, device 2 with 2 and 0. */
    static final String THREE_DEVICES = FIVE + "; attach 0 1 = 0; attach 1 2 = 1; attach 2 0 = 2";

    private Worlds() {
    }

    static String creates(int count) {
        StringBuilder rows = new StringBuilder();
        for (int i = 0; i < count; i++) {
            rows.append("create = ").append(i).append(';');
        }
        return rows.toString();
    }

    /** The call made count times, answering first, first + 1 and so on. */
    static String times(String call, int first, int count) {
        StringBuilder rows = new StringBuilder();
        for (int i = 0; i < count; i++) {
            rows.append(call).append(" = ").append(first + i).append(';');
        }
        return rows.toString();
    }

    static String allocs(int d, int first, int count) {
        return times("alloc " + d, first, count);
    }

    /** So many requests, each to write 7 to sector 0, put in, served and reaped; the first has the number given. */
    static String rounds(int first, int count) {
        StringBuilder rows = new StringBuilder();
        for (int i = 0; i < count; i++) {
            rows.append("submit 0 true 0 7 = ").append(first + i).append("; serve 0 = 0; reap 0 = 7;");
        }
        return rows.toString();
    }
}
