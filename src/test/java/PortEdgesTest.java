/** Promises 13 to 16, sentence by sentence: the edges. */
public final class PortEdgesTest {
    /** Port 0 of 0 is JOINED to port 0 of 1; port 1 of 0 WAITS for 1, port 2 of 0 for 2; port 1 of 1 WAITS for 0. */
    private static final String PORTS = Worlds.THREE
            + "; open 0 1 = 0; bind 1 0 0 = 0; open 0 1 = 1; open 0 2 = 2; open 1 0 = 1";

    private PortEdgesTest() {
    }

    public static void main(String[] args) {
        Runs t = new Runs();
        open(t);
        openRefused(t);
        bind(t);
        bindRefused(t);
        bindOrder(t);
        send(t);
        next(t);
        t.finish();
    }

    private static void open(Runs t) {
        t.run("13: \"The least closed port of d becomes WAITING for domain t\"", Worlds.THREE, "open 0 2 = 0",
                "bind 1 0 0 = BAD_PORT; send 0 0 = BAD_PORT; next 0 = IDLE; bind 2 0 0 = 0");
        t.run("13: \"(whatever that is)\": LIVE, DYING, NONE", Worlds.FADING, "open 0 1 = 0; open 0 3 = 1",
                "open 0 4 = 2; create = 4; bind 4 0 2 = 0; unmap 2 0 = 0; create = 3; bind 3 0 1 = 0",
                "bind 1 0 0 = 0");
        t.run("13: the first and the last domain", Worlds.FIVE, "open 0 4 = 0; open 4 0 = 0; bind 4 0 0 = 1",
                "bind 0 4 0 = 1");
        t.run("13: a port closed by the other's death is the least again", Worlds.THREE, "open 0 1 = 0; open 0 2 = 1",
                "bind 1 0 0 = 0; destroy 1 = 0; open 0 2 = 0; open 0 2 = 2");
    }

    private static void openRefused(Runs t) {
        t.notLive("13: \"BAD_DOMAIN when d is not LIVE.\"", "", "open # 1");
        t.outside("13: \"BAD_ARGUMENT when t is not 0 .. 4\"", -1, 5, PORTS, "open 0 # = BAD_ARGUMENT");
        for (int d = 0; d < 5; d++) {
            t.run("13: \"or is d\"", Worlds.FIVE, "open " + d + " " + d + " = BAD_ARGUMENT");
        }
        t.run("13: \"FULL when no port of d is closed.\": WAITING and JOINED ones, not with one closed", PORTS,
                "open 0 1 = 3; open 0 1 = FULL; open 0 4 = FULL; open 1 0 = 2; open 1 0 = 3; open 1 0 = FULL",
                "open 2 0 = 0");
        t.run("13: BAD_DOMAIN before BAD_ARGUMENT", Worlds.FADING, "open 3 3 = BAD_DOMAIN; open 4 5 = BAD_DOMAIN",
                "open 5 5 = BAD_DOMAIN; open -1 -1 = BAD_DOMAIN");
        t.run("13: BAD_ARGUMENT before FULL", PORTS, "open 0 1 = 3; open 0 0 = BAD_ARGUMENT; open 0 5 = BAD_ARGUMENT",
                "open 0 -1 = BAD_ARGUMENT; open 0 1 = FULL");
    }

    private static void bind(Runs t) {
        t.run("14: \"The least closed port of d and port of domain t are JOINED to one another\"", PORTS,
                "bind 1 0 1 = 2; send 0 1 = 1; next 1 = 2; send 1 2 = 1; next 0 = 1; send 0 2 = BAD_PORT",
                "send 1 1 = BAD_PORT");
        t.run("14: the first and the last port of t", Worlds.TWO, Worlds.times("open 0 1", 0, 4), "bind 1 0 3 = 0",
                "bind 1 0 0 = 1; send 1 0 = 1; next 0 = 3; send 1 1 = 1; next 0 = 0; send 0 3 = 1; next 1 = 0",
                "send 0 0 = 1; next 1 = 1");
        t.run("14: \"not PENDING\", though the ports were so before", Worlds.THREE, "open 0 1 = 0; bind 1 0 0 = 0",
                "send 0 0 = 1; send 1 0 = 1; destroy 1 = 0; create = 1; open 0 1 = 0; bind 1 0 0 = 0; next 0 = IDLE",
                "next 1 = IDLE; send 0 0 = 1; send 1 0 = 1");
        t.run("14: \"answers d's\"", Worlds.TWO, "open 0 1 = 0; open 0 1 = 1; open 1 0 = 0; open 1 0 = 1",
                "open 1 0 = 2; bind 1 0 0 = 3");
        t.run("14: two WAITING ports do not join by themselves", Worlds.TWO, "open 0 1 = 0; open 1 0 = 0",
                "send 0 0 = BAD_PORT; send 1 0 = BAD_PORT; bind 0 1 0 = 1; bind 1 0 0 = 1");
    }

    private static void bindRefused(Runs t) {
        t.notLive("14: \"BAD_DOMAIN when d ... is not LIVE.\"", "open 0 3 = 0; open 0 4 = 1", "bind # 0 0");
        t.run("14: \"BAD_DOMAIN when d ... is not LIVE.\", though the port WAITS for it", Worlds.FADING,
                "open 0 3 = 0; open 0 4 = 1; bind 3 0 0 = BAD_DOMAIN; bind 4 0 1 = BAD_DOMAIN");
        t.notLive("14: \"BAD_DOMAIN when ... t is not LIVE.\"", "open 0 1 = 0", "bind 1 # 0");
        t.outside("14: \"BAD_PORT when t has no such port\"", -1, 4, PORTS, "bind 1 0 # = BAD_PORT");
        t.run("14: \"or it is not WAITING for d\": closed, WAITING for another, JOINED, d's own", PORTS,
                "bind 1 0 3 = BAD_PORT; bind 1 0 2 = BAD_PORT; bind 2 0 1 = BAD_PORT; bind 1 0 0 = BAD_PORT",
                "bind 2 0 0 = BAD_PORT; bind 0 0 1 = BAD_PORT; bind 1 1 1 = BAD_PORT; bind 0 1 0 = BAD_PORT");
        t.run("14: a port is WAITING no more when it is JOINED", PORTS, "bind 1 0 1 = 2; bind 1 0 1 = BAD_PORT");
        t.run("14: \"FULL when no port of d is closed.\", not with one closed", PORTS, "open 1 2 = 2; bind 1 0 1 = 3",
                "open 0 1 = 3; bind 1 0 3 = FULL; bind 0 1 1 = FULL");
    }

    private static void bindOrder(Runs t) {
        t.run("14: BAD_DOMAIN before BAD_PORT", Worlds.FADING, "bind 3 0 0 = BAD_DOMAIN; bind 0 3 0 = BAD_DOMAIN",
                "bind 4 4 4 = BAD_DOMAIN; bind 0 5 -1 = BAD_DOMAIN; bind -1 0 9 = BAD_DOMAIN");
        t.run("14: BAD_DOMAIN before FULL", Worlds.FADING, Worlds.times("open 0 1", 0, 4), "bind 0 3 0 = BAD_DOMAIN",
                "bind 0 4 0 = BAD_DOMAIN; bind 0 5 0 = BAD_DOMAIN");
        t.run("14: BAD_PORT before FULL", PORTS, "open 1 0 = 2; open 1 0 = 3; bind 1 0 0 = BAD_PORT",
                "bind 1 0 2 = BAD_PORT; bind 1 0 3 = BAD_PORT; bind 1 0 4 = BAD_PORT; bind 1 0 -1 = BAD_PORT",
                "bind 1 0 1 = FULL");
    }

    private static void send(Runs t) {
        t.run("15: \"The port that port of d is JOINED to becomes PENDING\", no other", PORTS, "bind 2 0 2 = 0",
                "send 0 2 = 1; next 0 = IDLE; next 1 = IDLE; next 2 = 0; next 2 = IDLE");
        t.run("15: at the first and at the last port", Worlds.TWO, Worlds.times("open 0 1", 0, 4), "bind 1 0 0 = 0",
                "bind 1 0 1 = 1; bind 1 0 2 = 2; bind 1 0 3 = 3; send 0 3 = 1; next 1 = 3; send 0 0 = 1; next 1 = 0",
                "send 1 3 = 1; next 0 = 3");
        t.run("15: \"answers 1, or 0 if it was PENDING already\"", PORTS, "send 0 0 = 1; send 0 0 = 0; send 0 0 = 0",
                "next 1 = 0; next 1 = IDLE; send 0 0 = 1");
        t.same("15: a second send changes nothing", PORTS + "; send 0 0 = 1; send 0 0 = 0", PORTS + "; send 0 0 = 1");
        t.run("15: both ends may be PENDING", PORTS, "send 0 0 = 1; send 1 0 = 1; next 0 = 0; next 1 = 0");
        t.notLive("15: \"BAD_DOMAIN when d is not LIVE.\"", "open 0 1 = 0; bind 1 0 0 = 0", "send # 0");
        t.outside("15: \"BAD_PORT when there is no such port\"", -1, 4, PORTS, "send 0 # = BAD_PORT");
        t.run("15: \"or it is not JOINED\": closed, WAITING, closed by the other's death", PORTS,
                "send 0 3 = BAD_PORT; send 0 1 = BAD_PORT; send 0 2 = BAD_PORT; send 2 0 = BAD_PORT; destroy 1 = 0",
                "send 0 0 = BAD_PORT");
        t.run("15: BAD_DOMAIN before BAD_PORT", Worlds.FADING, "send 3 0 = BAD_DOMAIN; send 4 4 = BAD_DOMAIN",
                "send 5 -1 = BAD_DOMAIN; send -1 9 = BAD_DOMAIN");
    }

    private static void next(Runs t) {
        String joined = Worlds.TWO + ";" + Worlds.times("open 0 1", 0, 4)
                + "; bind 1 0 0 = 0; bind 1 0 1 = 1; bind 1 0 2 = 2; bind 1 0 3 = 3";
        t.run("16: \"The least port of d that is PENDING is so no more\": the first and the last", joined,
                "send 1 3 = 1; send 1 0 = 1; next 0 = 0; next 0 = 3; next 0 = IDLE");
        t.run("16: all four, one after the other", joined, "send 1 3 = 1; send 1 2 = 1; send 1 1 = 1; send 1 0 = 1",
                "next 0 = 0; next 0 = 1; next 0 = 2; next 0 = 3; next 0 = IDLE");
        t.run("16: the other ends stay PENDING", joined, "send 1 1 = 1; send 0 1 = 1; next 0 = 1; next 0 = IDLE",
                "send 0 1 = 0; next 1 = 1");
        t.notLive("16: \"BAD_DOMAIN when d is not LIVE.\"", "", "next #");
        t.run("16: \"IDLE when none is PENDING.\": closed, WAITING, JOINED ports", PORTS, "next 2 = IDLE",
                "next 0 = IDLE; send 0 0 = 1; next 0 = IDLE; next 1 = 0; next 1 = IDLE");
        t.run("16: BAD_DOMAIN before IDLE", "next 0 = BAD_DOMAIN", Worlds.FADING, "next 3 = BAD_DOMAIN",
                "next 4 = BAD_DOMAIN");
    }
}
