import java.util.Arrays;
import java.util.Random;

/** The document's first lines: whatever went wrong before, quiet makes all tables right. */
public final class WhatItIsTest {
    private static final int NETS = 400;
    private static final int TROUBLES = 120;
    private static final int FAR = 1000;

    private final Random random;
    private final HopRouters net = new HopRouters();
    private final boolean[][] up = new boolean[Nets.ROUTERS][Nets.ROUTERS];

    private WhatItIsTest(long seed) {
        random = new Random(seed);
    }

    public static void main(String[] args) {
        Checks.says("so that all tables come right when the net has been quiet for long enough");
        for (long seed = 0; seed < NETS && Checks.allGood(); seed++) {
            WhatItIsTest test = new WhatItIsTest(seed);
            for (int i = 0; i < TROUBLES; i++) {
                test.trouble();
            }
            test.net.tick(1000, true);
            test.tablesAreRight("net " + seed);
        }
        Checks.end();
    }

    private int any(int bound) {
        return random.nextInt(bound);
    }

    private void trouble() {
        int a = any(Nets.ROUTERS);
        int b = (a + 1 + any(Nets.ROUTERS - 1)) % Nets.ROUTERS;
        int packets = net.count(0);
        switch (any(8)) {
            case 0, 1 -> {
                up[a][b] = any(5) < 2;
                up[b][a] = up[a][b];
                net.link(a, b, up[a][b]);
            }
            case 2 -> {
                if (!up[a][b]) {
                    net.sees(a, b);
                }
            }
            case 3 -> net.restart(a);
            case 4 -> {
                if (up[a][b]) {
                    net.ask(a, b, 1 + any(255));
                }
            }
            case 5 -> net.tick(any(15), any(4) > 0);
            default -> {
                if (packets > 0) {
                    spoil(any(packets));
                }
            }
        }
    }

    private void spoil(int k) {
        switch (any(4)) {
            case 0 -> net.deliver(k);
            case 1 -> net.lose(k);
            case 2 -> net.twice(k);
            default -> {
                net.poke(k, 0, 2);
                net.poke(k, 23, 1 + any(16));
            }
        }
    }

    private void tablesAreRight(String name) {
        for (int r = 0; r < Nets.ROUTERS; r++) {
            int[] far = hopsFrom(r);
            for (int d = 0; d < Nets.ROUTERS; d++) {
                int due = far[d] == FAR ? HopRouters.NONE : far[d];
                String way = name + ", " + r + " to " + d;
                Checks.same("metric, " + way, net.route(r, d, 0), due);
                Checks.same("hops, " + way, net.send(r, d), due);
            }
        }
    }

    /** Each round all routers that a known one is linked with become known. */
    private int[] hopsFrom(int router) {
        int[] far = new int[Nets.ROUTERS];
        Arrays.fill(far, FAR);
        far[router] = 0;
        for (int hops = 0; hops < Nets.ROUTERS; hops++) {
            for (int a = 0; a < Nets.ROUTERS; a++) {
                for (int b = 0; far[a] == hops && b < Nets.ROUTERS; b++) {
                    if (up[a][b]) {
                        far[b] = Math.min(far[b], hops + 1);
                    }
                }
            }
        }
        return far;
    }
}
