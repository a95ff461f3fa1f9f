/** Nets to test with, and numbers that are wrong. */
final class Nets {
    static final int ROUTERS = 8;
    static final int MOST_PACKETS = 200;

    /** The last two are 0 and 7 again if a product with 8 wraps round. */
    static final int[] NO_ROUTER = {-1, 8, -8, -9, 9, 15, 63, 64, Integer.MIN_VALUE,
        Integer.MAX_VALUE, 1 << 29, (1 << 29) + 7};

    private Nets() {
    }

    /** Routers 0 .. n-1 in a row, each linked with the next. */
    static Net line(int n) {
        Net x = new Net();
        for (int r = 0; r + 1 < n; r++) {
            x.link(r, r + 1, true);
        }
        return x;
    }

    static Net settledLine(int n) {
        Net x = line(n);
        x.tick(80, true);
        return x;
    }

    /** One router linked with all others. */
    static Net star(int middle) {
        Net x = new Net();
        for (int r = 0; r < ROUTERS; r++) {
            if (r != middle) {
                x.link(middle, r, true);
            }
        }
        return x;
    }

    /** A line of three, with n requests from 0 to 1 in the air. */
    static Net withPackets(int n) {
        Net x = line(3);
        for (int i = 0; i < n; i++) {
            x.ask(0, 1, 1 + i % 255);
        }
        return x;
    }

    static Net fullAir() {
        return withPackets(MOST_PACKETS);
    }

    /** A net with something of everything: routes, gone and changed ones, links, packets, counts. */
    static Net busy() {
        Net x = settledLine(5);
        x.link(3, 4, false);
        x.sees(3, 4);
        x.tick(3, true);
        hear(x, 0, 1, 7, 6);
        x.ask(1, 2, 129);
        x.restart(0);
        x.cut(1, 21);
        x.deliver(1);
        x.ask(2, 1, 7);
        x.ask(2, 3, 8);
        x.link(2, 3, false);
        x.deliver(2);
        x.twice(0);
        x.poke(2, 11, 200);
        return x;
    }

    /** Puts a response with one entry behind the others in the air: answers its number. */
    static int responseInAir(Net x, int from, int to, int d, int metric) {
        int k = x.ask(from, to, 1 << d) - 1;
        x.poke(k, 0, 2);
        x.poke(k, 23, metric);
        return k;
    }

    /** A response with one entry comes. */
    static void hear(Net x, int from, int to, int d, int metric) {
        x.deliver(responseInAir(x, from, to, d, metric));
    }

    static void loseAll(Net x) {
        while (x.count(0) > 0) {
            x.lose(0);
        }
    }

    /** What a packet should look like that has these entries: family, D, metric of each. */
    static String due(int from, int to, int command, int... entries) {
        StringBuilder s = new StringBuilder();
        s.append(from).append('>').append(to).append(": ").append(command).append(" 2 0 0");
        for (int i = 0; i < entries.length; i += 3) {
            s.append(" 0 ").append(entries[i]).append(" 0 0 10 0 ").append(entries[i + 1]);
            s.append(" 0 255 255 255 0 0 0 0 0 0 0 0 ").append(entries[i + 2]);
        }
        return s.toString();
    }

    static String request(int from, int to, int... destinations) {
        int[] entries = new int[3 * destinations.length];
        for (int i = 0; i < destinations.length; i++) {
            entries[3 * i] = 2;
            entries[3 * i + 1] = destinations[i];
            entries[3 * i + 2] = 16;
        }
        return due(from, to, 1, entries);
    }

    static String requestForAll(int from, int to) {
        return due(from, to, 1, 0, 0, 16);
    }

    /** D and metric of each entry. */
    static String response(int from, int to, int... entries) {
        int[] all = new int[entries.length / 2 * 3];
        for (int i = 0; i < entries.length / 2; i++) {
            all[3 * i] = 2;
            all[3 * i + 1] = entries[2 * i];
            all[3 * i + 2] = entries[2 * i + 1];
        }
        return due(from, to, 2, all);
    }
}
