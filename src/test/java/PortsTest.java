/** Promises 13 (open), 14 (bind), 15 (send) and 16 (next). */
public final class PortsTest {
    private static final String TWO = "create = 0; create = 1";
    private static final String THREE = TWO + "; create = 2";

    private PortsTest() {
    }

    public static void main(String[] args) {
        Runs t = new Runs();
        open(t);
        bind(t);
        send(t);
        next(t);
        t.finish();
    }

    private static void open(Runs t) {
        t.run("13: four ports, then FULL", TWO,
                "open 0 1 = 0; open 0 1 = 1; open 0 3 = 2; open 0 4 = 3; open 0 1 = FULL; open 1 0 = 0");
        t.run("13: the least closed one", THREE,
                "open 0 1 = 0; open 0 2 = 1; open 0 1 = 2; bind 2 0 1 = 0; destroy 2 = 0; open 0 1 = 1; open 0 1 = 3");
        t.run("13: wrong numbers", TWO,
                "open 0 0 = BAD_ARGUMENT; open 0 -1 = BAD_ARGUMENT; open 0 5 = BAD_ARGUMENT; open 2 0 = BAD_DOMAIN",
                "open -1 0 = BAD_DOMAIN; open 5 5 = BAD_DOMAIN; open 0 1 = 0");
        t.run("13: BAD_ARGUMENT comes before FULL", TWO,
                "open 0 1 = 0; open 0 1 = 1; open 0 1 = 2; open 0 1 = 3; open 0 0 = BAD_ARGUMENT; open 0 1 = FULL");
    }

    private static void bind(Runs t) {
        t.run("14: joins two ports, neither PENDING", THREE,
                "open 0 2 = 0; open 0 1 = 1; open 1 2 = 0; bind 1 0 1 = 1; next 0 = IDLE; next 1 = IDLE",
                "send 1 1 = 1; next 0 = 1; send 0 1 = 1; next 1 = 1; send 0 0 = BAD_PORT; send 1 0 = BAD_PORT");
        t.run("14: only a port that waits for d", THREE,
                "open 0 2 = 0; bind 1 0 0 = BAD_PORT; bind 1 0 1 = BAD_PORT; bind 1 0 -1 = BAD_PORT",
                "bind 1 0 4 = BAD_PORT; bind 1 1 0 = BAD_PORT; bind 2 0 0 = 0; bind 2 0 0 = BAD_PORT",
                "bind 0 2 0 = BAD_PORT");
        t.run("14: a waiting port of d itself is not joined to d", TWO, "open 0 1 = 0; bind 0 0 0 = BAD_PORT",
                "bind 0 1 0 = BAD_PORT");
        t.run("14: FULL, and BAD_PORT before it", TWO,
                "open 1 0 = 0; open 1 0 = 1; open 1 0 = 2; open 1 0 = 3; open 0 1 = 0; bind 1 0 0 = FULL",
                "bind 1 0 1 = BAD_PORT; bind 0 1 2 = 1; send 0 1 = 1; next 1 = 2; send 0 0 = BAD_PORT");
        t.run("14: wrong domains", TWO,
                "open 0 1 = 0; open 0 2 = 1; bind 2 0 1 = BAD_DOMAIN; bind 1 2 0 = BAD_DOMAIN",
                "bind -1 0 0 = BAD_DOMAIN; bind 1 -1 0 = BAD_DOMAIN; bind 5 0 0 = BAD_DOMAIN; bind 1 5 9 = BAD_DOMAIN",
                "bind 1 0 0 = 0");
    }

    private static void send(Runs t) {
        t.run("15: 1 the first time, 0 while PENDING", TWO,
                "open 0 1 = 0; bind 1 0 0 = 0; send 0 0 = 1; send 0 0 = 0; send 1 0 = 1; send 0 0 = 0; next 1 = 0",
                "send 0 0 = 1; send 1 0 = 0; next 0 = 0; next 0 = IDLE");
        t.run("15: ports that are not JOINED", TWO,
                "send 0 0 = BAD_PORT; open 0 1 = 0; send 0 0 = BAD_PORT; send 0 -1 = BAD_PORT; send 0 4 = BAD_PORT",
                "send 0 2147483647 = BAD_PORT; bind 1 0 0 = 0; send 0 0 = 1; send 1 1 = BAD_PORT");
        t.run("15: wrong domains", TWO, "send 2 0 = BAD_DOMAIN; send -1 0 = BAD_DOMAIN; send 5 9 = BAD_DOMAIN");
    }

    private static void next(Runs t) {
        t.run("16: the least PENDING port, each once", THREE,
                "open 0 1 = 0; open 0 2 = 1; open 0 1 = 2; open 0 2 = 3; bind 1 0 0 = 0; bind 2 0 1 = 0",
                "bind 1 0 2 = 1; bind 2 0 3 = 1; send 2 1 = 1; send 1 1 = 1; send 2 0 = 1",
                "next 0 = 1; send 1 0 = 1; next 0 = 0; next 0 = 2; next 0 = 3; next 0 = IDLE; next 1 = IDLE");
        t.run("16: wrong domains", "next 0 = BAD_DOMAIN; create = 0; next 0 = IDLE; next -1 = BAD_DOMAIN",
                "next 1 = BAD_DOMAIN; next 5 = BAD_DOMAIN");
    }
}
