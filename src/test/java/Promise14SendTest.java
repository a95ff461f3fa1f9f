public final class Promise14SendTest {
    public static void main(String[] args) {
        howManyHops();
        itHasComeAtOnce();
        noRoute();
        aMetricBelow16();
        aLinkIsDown();
        noRouteIsToldFirst();
        notThereBehind16Hops();
        changesNothing();
        noSuchRouter();
        Checks.end();
    }

    private static void howManyHops() {
        Checks.says("A DATAGRAM: how many hops it needs");
        Net x = Nets.settledLine(8);
        for (int a = 0; a < Nets.ROUTERS; a++) {
            for (int b = 0; b < Nets.ROUTERS; b++) {
                Checks.same("hops " + a + " " + b, x.send(a, b), Math.abs(a - b));
            }
        }
    }

    private static void itHasComeAtOnce() {
        Checks.says("at a router that is D it has come");
        Net x = new Net();
        for (int r = 0; r < Nets.ROUTERS; r++) {
            Checks.same("to itself, without a link", x.send(r, r), 0);
        }
        Net y = Nets.line(3);
        Nets.hear(y, 1, 0, 1, 15);
        Nets.hear(y, 0, 1, 2, 1);
        Checks.same("at 1 it has come, whatever 1 knows", y.send(0, 1), 1);
    }

    private static void noRoute() {
        Checks.says("-1 there is no route (or metric 16) where it is");
        Net x = Nets.line(4);
        Checks.same("none at first", x.send(0, 3), -1);
        Nets.hear(x, 1, 0, 3, 3);
        Checks.same("none at 1", x.send(0, 3), -1);
        Nets.hear(x, 2, 1, 3, 2);
        Checks.same("none at 2", x.send(0, 3), -1);
        Nets.hear(x, 3, 2, 3, 1);
        Checks.same("one everywhere", x.send(0, 3), 3);
        x.restart(1);
        Checks.same("none at 1 again", x.send(0, 3), -1);
    }

    private static void aMetricBelow16() {
        Checks.says("Otherwise it goes to the NEXT of the route to D, if its metric is below 16");
        Net x = Nets.line(3);
        Nets.hear(x, 1, 0, 2, 14);
        Nets.hear(x, 2, 1, 2, 14);
        Checks.same("14", x.send(0, 2), 2);
        Nets.hear(x, 1, 0, 2, 15);
        Nets.hear(x, 2, 1, 2, 15);
        Checks.same("15", x.send(0, 2), 2);
        Nets.hear(x, 2, 1, 2, 16);
        Checks.same("16 on the way", x.send(0, 2), -1);
        Checks.same("16 at once", x.send(1, 2), -1);
        x.tick(20, false);
        Checks.same("16, no more silent", x.send(1, 2), -1);
        Nets.hear(x, 2, 1, 2, 15);
        Checks.same("15 again", x.send(1, 2), 1);
    }

    private static void aLinkIsDown() {
        Checks.says("-2 a link is down");
        Net x = Nets.settledLine(4);
        x.link(2, 3, false);
        Checks.same("at the end", x.send(0, 3), -2);
        Checks.same("at once", x.send(3, 0), -2);
        Checks.same("not so far", x.send(0, 2), 2);
        x.link(2, 3, true);
        Checks.same("up again", x.send(0, 3), 3);
        x.link(0, 3, true);
        Checks.same("it goes by NEXT, not by links", x.send(0, 3), 3);
        x.link(0, 1, false);
        Checks.same("also when there is another way", x.send(0, 3), -2);
    }

    private static void noRouteIsToldFirst() {
        Checks.says("-1 there is no route (or metric 16) where it is; -2 a link is down");
        Net x = Nets.settledLine(3);
        x.link(1, 2, false);
        Checks.same("a route, and down", x.send(1, 2), -2);
        x.sees(1, 2);
        Checks.same("16, and down", x.send(1, 2), -1);
        Checks.same("16, and down, on the way", x.send(0, 2), -1);
        x.link(0, 1, false);
        Checks.same("down before there is 16", x.send(0, 2), -2);
    }

    /**
     * Of eight routers, a datagram that makes more than seven hops has been somewhere twice, and so
     * goes on for ever: loops of each size stand for all that is beyond 16 hops.
     */
    private static void notThereBehind16Hops() {
        Checks.says("at most 16 hops .. -3 it is not there behind 16 hops");
        for (int size = 2; size <= 7; size++) {
            Net x = loop(size);
            for (int r = 0; r < size; r++) {
                Checks.same("round " + size, x.send(r, 7), -3);
            }
            Checks.same("not for the loop", x.send(0, 0), 0);
            x.link(size - 1, 0, false);
            Checks.same("a link of the loop is down", x.send(0, 7), -2);
        }
        Net tail = Nets.line(4);
        Nets.hear(tail, 1, 0, 7, 2);
        Nets.hear(tail, 2, 1, 7, 2);
        Nets.hear(tail, 3, 2, 7, 2);
        Nets.hear(tail, 2, 3, 7, 2);
        Checks.same("into a loop", tail.send(0, 7), -3);
        Checks.same("the longest way without one", Nets.settledLine(8).send(7, 0), 7);
    }

    /** Each of 0 .. size-1 sends to the next of them what is for 7, the last one to 0. */
    private static Net loop(int size) {
        Net x = new Net();
        for (int r = 0; r < size; r++) {
            x.link(r, (r + 1) % size, true);
        }
        for (int r = 0; r < size; r++) {
            Nets.hear(x, (r + 1) % size, r, 7, 15);
        }
        return x;
    }

    private static void changesNothing() {
        Checks.says("A DATAGRAM: how many hops it needs");
        Net x = Nets.busy();
        String before = Look.state(x);
        for (int i = 0; i < 64; i++) {
            x.send(i / 8, i % 8);
        }
        Checks.same("state", Look.state(x), before);
    }

    private static void noSuchRouter() {
        Checks.says("IndexOutOfBoundsException: there is no such router");
        Net x = Nets.busy();
        for (int w : Nets.NO_ROUTER) {
            for (int r = 0; r < Nets.ROUTERS; r++) {
                int there = r;
                Checks.noSuch("send(" + w + ", " + r + ")", x, () -> x.send(w, there));
                Checks.noSuch("send(" + r + ", " + w + ")", x, () -> x.send(there, w));
            }
            Checks.noSuch("none to itself", x, () -> x.send(w, w));
        }
    }
}
