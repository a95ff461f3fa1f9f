/** Looks at twins of a net, as many as it takes: looking costs the net itself no call. */
final class Look {
    static final String NO_ROUTE = "-1 -1 -1 -1 -1";
    static final String TO_ITSELF = "0 -1 -1 -1 -1";

    private final Net net;
    private Net twin;

    private Look(Net net) {
        this.net = net;
        this.twin = net.twin();
    }

    private Net twin() {
        if (twin.callsLeft() == 0) {
            twin = net.twin();
        }
        return twin;
    }

    /** "from>to: byte byte .." */
    static String packet(Net x, int k) {
        return new Look(x).packet(k);
    }

    /** All packets in the air from number first on, a line each. */
    static String packets(Net x, int first) {
        Look look = new Look(x);
        StringBuilder s = new StringBuilder();
        int n = look.twin().count(0);
        for (int k = first; k < n; k++) {
            s.append(look.packet(k)).append('\n');
        }
        return s.toString();
    }

    /** "metric next age changed silent" */
    static String route(Net x, int router, int to) {
        return new Look(x).route(router, to);
    }

    /** count(0) .. count(5) */
    static String counts(Net x) {
        return new Look(x).counts();
    }

    static boolean isUp(Net x, int a, int b) {
        return x.twin().link(a, b, false);
    }

    /** All that can be seen of a net. */
    static String state(Net x) {
        Look look = new Look(x);
        return look.counts() + "\n" + look.tables() + links(x) + "\n" + packets(x, 0);
    }

    private String counts() {
        StringBuilder s = new StringBuilder();
        for (int what = 0; what <= 5; what++) {
            s.append(what == 0 ? "" : " ").append(twin().count(what));
        }
        return s.toString();
    }

    private String route(int router, int to) {
        StringBuilder s = new StringBuilder();
        for (int what = 0; what <= 4; what++) {
            s.append(what == 0 ? "" : " ").append(twin().route(router, to, what));
        }
        return s.toString();
    }

    private String tables() {
        StringBuilder s = new StringBuilder();
        for (int a = 0; a < Nets.ROUTERS; a++) {
            for (int b = 0; b < Nets.ROUTERS; b++) {
                s.append(route(a, b)).append(", ");
            }
            s.append('\n');
        }
        return s.toString();
    }

    private String packet(int k) {
        StringBuilder s = new StringBuilder();
        s.append(twin().packet(k, -3)).append('>').append(twin().packet(k, -2)).append(':');
        int n = twin().packet(k, HopRouters.NONE);
        for (int i = 0; i < n; i++) {
            s.append(' ').append(twin().packet(k, i));
        }
        return s.toString();
    }

    /** Takes each link down in a twin, which answers whether it was up. */
    private static String links(Net x) {
        Net twin = x.twin();
        StringBuilder s = new StringBuilder("up:");
        for (int a = 0; a < Nets.ROUTERS; a++) {
            for (int b = a + 1; b < Nets.ROUTERS; b++) {
                if (twin.link(a, b, false)) {
                    s.append(' ').append(a).append('-').append(b);
                }
            }
        }
        return s.toString();
    }
}
