/** Nets to test with, and ways to look at a whole one. */
final class Nets {
    static final int ROUTERS = 8;

    private Nets() {
    }

    /** Routers 0 .. n-1 in a row, each linked with the next. */
    static HopRouters line(int n) {
        HopRouters x = new HopRouters();
        for (int r = 0; r + 1 < n; r++) {
            x.link(r, r + 1, true);
        }
        return x;
    }

    static HopRouters settledLine(int n) {
        HopRouters x = line(n);
        x.tick(80, true);
        return x;
    }

    /** Two linked routers with 200 packets from 0 to 1 in the air. */
    static HopRouters fullAir() {
        HopRouters x = line(2);
        for (int i = 0; i < 200; i++) {
            x.ask(0, 1, 1 + i % 255);
        }
        return x;
    }

    /** Puts a response with one entry behind the others in the air: answers its number. */
    static int responseInAir(HopRouters x, int from, int to, int d, int metric) {
        int k = x.ask(from, to, 1 << d) - 1;
        x.poke(k, 0, 2);
        x.poke(k, 23, metric);
        return k;
    }

    /** A response with one entry comes. */
    static void hear(HopRouters x, int from, int to, int d, int metric) {
        x.deliver(responseInAir(x, from, to, d, metric));
    }

    static String packet(HopRouters x, int k) {
        StringBuilder s = new StringBuilder();
        s.append(x.packet(k, -3)).append('>').append(x.packet(k, -2)).append(':');
        int n = x.packet(k, HopRouters.NONE);
        for (int i = 0; i < n; i++) {
            s.append(' ').append(x.packet(k, i));
        }
        return s.toString();
    }

    /** What a packet should look like that has these entries: family, D, metric of each. */
    static String due(int from, int to, int command, int... entries) {
        StringBuilder s = new StringBuilder();
        s.append(from).append('>').append(to).append(": ").append(command).append(" 2 0 0");
        for (int i = 0; i < entries.length; i += 3) {
            s.append(" 0 ").append(entries[i]).append(" 0 0 10 0 ").append(entries[i + 1]);
            s.append(" 0 255 255 255 0 0 0 0 0 0 0 0 ").append(entries[i + 2]);
        }
        return s.toString();
    }

    /** "metric next age changed silent" */
    static String route(HopRouters x, int router, int to) {
        StringBuilder s = new StringBuilder();
        for (int what = 0; what <= 4; what++) {
            s.append(what == 0 ? "" : " ").append(x.route(router, to, what));
        }
        return s.toString();
    }

    static final String NO_ROUTE = "-1 -1 -1 -1 -1";

    static boolean isUp(HopRouters x, int a, int b) {
        boolean wasDown = x.link(a, b, true);
        if (wasDown) {
            x.link(a, b, false);
        }
        return !wasDown;
    }

    static String state(HopRouters x) {
        StringBuilder s = new StringBuilder();
        for (int what = 0; what <= 5; what++) {
            s.append(x.count(what)).append(' ');
        }
        s.append('\n');
        for (int a = 0; a < ROUTERS; a++) {
            for (int b = 0; b < ROUTERS; b++) {
                s.append(route(x, a, b)).append(a != b && isUp(x, a, b) ? " up, " : ", ");
            }
            s.append('\n');
        }
        for (int k = 0; k < x.count(0); k++) {
            s.append(packet(x, k)).append('\n');
        }
        return s.toString();
    }
}
