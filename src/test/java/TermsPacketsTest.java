import java.util.Arrays;

/** What the bytes of packets are, what is told to a neighbour, and when a packet or entry is sound. */
public final class TermsPacketsTest {
    public static void main(String[] args) {
        itselfIsToldAsOne();
        oneMoreAnd16AtMost();
        poisonedForNext();
        fromNoRouteToSeven();
        withoutAnEntry();
        howManyBytes();
        theCommand();
        theHead();
        theEntrysBytes();
        theDestination();
        theMetric();
        othersArePassedOver();
        Checks.end();
    }

    private static void itselfIsToldAsOne() {
        Checks.says("a response with an entry for the router itself (metric 0, told as 1)");
        for (int r = 0; r < Nets.ROUTERS; r++) {
            Net x = new Net();
            int other = (r + 3) % Nets.ROUTERS;
            x.link(r, other, true);
            x.tick(10 - r - 1, false);
            Nets.loseAll(x);
            x.tick(1, false);
            Checks.same("router " + r, Look.packet(x, 0), Nets.response(r, other, r, 1));
        }
    }

    private static void oneMoreAnd16AtMost() {
        Checks.says("with the route's metric, and 1 more (16 at most)");
        for (int metric = 1; metric <= 15; metric++) {
            Net x = Nets.line(3);
            Nets.hear(x, 0, 1, 7, metric);
            x.tick(1, false);
            Checks.same("told of " + metric, Look.packet(x, 1), Nets.response(1, 2, 7, metric + 1));
            x.restart(2);
            x.deliver(2);
            Checks.same("told in answer", Look.packet(x, 2), Nets.response(1, 2, 1, 1, 7, metric + 1));
        }
        Net gone = Nets.line(3);
        Nets.hear(gone, 0, 1, 7, 15);
        Nets.hear(gone, 0, 1, 7, 16);
        gone.tick(1, false);
        Checks.same("told of 16", Look.packet(gone, 1), Nets.response(1, 2, 7, 16));
    }

    private static void poisonedForNext() {
        Checks.says("but 16 if the neighbour is its NEXT");
        for (int metric = 1; metric <= 15; metric++) {
            Net x = Nets.line(3);
            Nets.hear(x, 0, 1, 7, metric);
            Nets.hear(x, 2, 1, 5, metric);
            x.tick(1, false);
            Checks.same("to 0", Look.packet(x, 0), Nets.response(1, 0, 5, metric + 1, 7, 16));
            Checks.same("to 2", Look.packet(x, 1), Nets.response(1, 2, 5, 16, 7, metric + 1));
        }
        Net moved = Nets.line(3);
        Nets.hear(moved, 0, 1, 7, 5);
        Nets.hear(moved, 2, 1, 7, 4);
        moved.tick(1, false);
        Checks.same("it was NEXT", Look.packet(moved, 0), Nets.response(1, 0, 7, 5));
        Checks.same("it is NEXT", Look.packet(moved, 1), Nets.response(1, 2, 7, 16));
    }

    private static void fromNoRouteToSeven() {
        Checks.says("an entry for the router itself (..), if that is asked for, then for these, by D");
        for (int router = 0; router < Nets.ROUTERS; router += 7) {
            int from = router == 0 ? 1 : 6;
            int to = router == 0 ? 2 : 5;
            Net x = new Net();
            x.link(router, from, true);
            x.link(router, to, true);
            int[] entries = {router, 1};
            x.restart(to);
            x.deliver(0);
            Checks.same("no route", Look.packets(x, 0), Nets.response(router, to, entries) + "\n");
            x.lose(0);
            for (int i = Nets.ROUTERS - 1; i >= 0; i--) {
                int d = (i * 3) % Nets.ROUTERS;
                if (d != router) {
                    Nets.hear(x, from, router, d, d + 1);
                    entries = allBy(x, router);
                    x.restart(to);
                    x.deliver(0);
                    Checks.same("one more", Look.packets(x, 0), Nets.response(router, to, entries) + "\n");
                    Checks.same("length", x.packet(0, -1), 4 + 10 * entries.length);
                    x.lose(0);
                }
            }
            Checks.same("eight entries", entries.length, 16);
        }
    }

    /** The entries due for all routes of a router, none of which is over the one that is told. */
    private static int[] allBy(Net x, int router) {
        int[] entries = new int[16];
        entries[0] = router;
        entries[1] = 1;
        int n = 2;
        for (int d = 0; d < Nets.ROUTERS; d++) {
            int metric = x.twin().route(router, d, 0);
            if (metric > 0) {
                entries[n] = d;
                entries[n + 1] = metric + 1;
                n += 2;
            }
        }
        return Arrays.copyOf(entries, n);
    }

    private static void withoutAnEntry() {
        Checks.says("Without an entry nothing is sent.");
        Net x = Nets.line(3);
        Checks.same("no change, not its turn", x.tick(7, false), 0);
        Checks.same("sent", x.count(2), 0);
        x.ask(0, 1, 3);
        x.poke(0, 23, 0);
        x.poke(0, 43, 17);
        x.deliver(0);
        Checks.same("a request without a sound entry", Look.counts(x), "0 0 1 7 2 0");
        x.ask(0, 1, 3);
        x.poke(0, 23, 0);
        x.poke(0, 43, 16);
        x.deliver(0);
        Checks.same("a request with one", Look.packets(x, 0), Nets.response(1, 0, 1, 1) + "\n");
    }

    private static void howManyBytes() {
        Checks.says("SOUND if it has 4 bytes and 20 for each of one entry or more");
        for (int length = 0; length <= 164; length++) {
            Net x = Nets.line(2);
            x.ask(0, 1, 255);
            x.cut(0, length);
            boolean sound = length >= 24 && length % 20 == 4;
            Checks.same("the link is up", x.deliver(0), true);
            Checks.same(length + " bytes", x.count(5), sound ? 0 : 1);
            Checks.same(length + " bytes answered", x.count(0), sound ? 1 : 0);
            if (sound) {
                Checks.same("length of the answer", x.packet(0, -1), length);
            }
            Net y = Nets.line(2);
            y.ask(0, 1, 255);
            y.poke(0, 0, 2);
            for (int d = 0; d < Nets.ROUTERS; d++) {
                y.poke(0, 23 + 20 * d, 5);
            }
            y.cut(0, length);
            y.deliver(0);
            Checks.same("a response", y.count(5), sound ? 0 : 1);
            for (int d = 0; d < Nets.ROUTERS; d++) {
                boolean heard = sound && d != 1 && length >= 24 + 20 * d;
                Checks.same(length + " bytes: to " + d, Look.route(y, 1, d),
                        heard ? "5 0 0 1 0" : d == 1 ? Look.TO_ITSELF : Look.NO_ROUTE);
            }
        }
    }

    private static void theCommand() {
        Checks.says("a command 1 or 2");
        for (int command = 0; command <= 255; command++) {
            Net x = Nets.line(2);
            x.ask(0, 1, 128);
            x.poke(0, 23, 7);
            x.poke(0, 0, command);
            Checks.same("the link is up", x.deliver(0), true);
            String what = "command " + command;
            Checks.same(what, x.count(5), command == 1 || command == 2 ? 0 : 1);
            Checks.same(what + " answered", x.count(0), command == 1 ? 1 : 0);
            Checks.same(what + " heard", x.route(1, 7, 0), command == 2 ? 7 : -1);
            Checks.same(what + " lost", x.count(1), 0);
        }
    }

    private static void theHead() {
        Checks.says("and 2, 0, 0; else nothing happens");
        int[] head = {2, 2, 0, 0};
        for (int i = 1; i < 4; i++) {
            for (int v = 0; v <= 255; v++) {
                for (int command = 1; command <= 2; command++) {
                    Net x = Nets.line(2);
                    x.ask(0, 1, 128);
                    x.poke(0, 0, command);
                    x.poke(0, 23, 7);
                    x.poke(0, i, v);
                    x.deliver(0);
                    boolean sound = v == head[i];
                    String what = "byte " + i + " = " + v;
                    Checks.same(what, x.count(5), sound ? 0 : 1);
                    Checks.same(what + " answered", x.count(2), sound && command == 1 ? 2 : 1);
                    Checks.same(what + " heard", x.route(1, 7, 0), sound && command == 2 ? 7 : -1);
                }
            }
        }
    }

    /** Each byte of an entry but D and the metric, with each value; a second entry is behind it. */
    private static void theEntrysBytes() {
        Checks.says("An ENTRY is sound if bytes 0 to 3 are 0 2 0 0, .. all else is as above");
        int[] plain = {0, 2, 0, 0, 10, 0, 6, 0, 255, 255, 255, 0, 0, 0, 0, 0, 0, 0, 0, 9};
        for (int i = 0; i < 19; i++) {
            for (int v = 0; v <= 255 && i != 6; v++) {
                Net x = Nets.line(2);
                x.ask(0, 1, 0b11000000);
                x.poke(0, 0, 2);
                x.poke(0, 23, 9);
                x.poke(0, 43, 4);
                x.poke(0, 4 + i, v);
                x.deliver(0);
                String what = "entry byte " + i + " = " + v;
                Checks.same(what + ": the packet is sound", x.count(5), 0);
                Checks.same(what, x.route(1, 6, 0), v == plain[i] ? 9 : -1);
                Checks.same(what + ": the next entry", x.route(1, 7, 0), 4);
                Net y = Nets.line(2);
                y.ask(0, 1, 0b11000000);
                y.poke(0, 24 + i, v);
                y.deliver(0);
                Checks.same(what + " in a request", y.packet(0, -1), v == plain[i] ? 44 : 24);
            }
        }
    }

    private static void theDestination() {
        Checks.says("D is 0 .. 7");
        for (int d = 0; d <= 255; d++) {
            Net x = Nets.line(2);
            x.ask(0, 1, 0b11);
            x.poke(0, 0, 2);
            x.poke(0, 23, 9);
            x.poke(0, 10, d);
            x.poke(0, 43, 16);
            x.deliver(0);
            Checks.same("D " + d + ": the packet is sound", x.count(5), 0);
            for (int r = 0; r < Nets.ROUTERS; r++) {
                int due = r == 1 ? 0 : r == d ? 9 : -1;
                Checks.same("D " + d + ": to " + r, x.route(1, r, 0), due);
                Checks.same("D " + d + ": 0 to " + r, x.route(0, r, 0), r == 0 ? 0 : -1);
            }
            Net y = Nets.line(2);
            y.ask(0, 1, 1);
            y.poke(0, 10, d);
            y.deliver(0);
            Checks.same("D " + d + " in a request", Look.packets(y, 0),
                    d <= 7 ? Nets.response(1, 0, d, d == 1 ? 1 : 16) + "\n" : "");
        }
    }

    private static void theMetric() {
        Checks.says("and its metric is 1 .. 16; others are passed over");
        for (int metric = 0; metric <= 255; metric++) {
            boolean sound = metric >= 1 && metric <= 16;
            Net x = Nets.line(2);
            Nets.hear(x, 0, 1, 7, metric);
            Checks.same("metric " + metric, x.route(1, 7, 0), sound && metric < 16 ? metric : -1);
            Checks.same("the packet is sound", x.count(5), 0);
            Net known = Nets.line(2);
            Nets.hear(known, 0, 1, 7, 15);
            known.tick(1, false);
            Nets.hear(known, 0, 1, 7, metric);
            String due = metric == 16 ? "16 0 0 1 20" : metric == 15 ? "15 0 0 0 0"
                    : sound ? metric + " 0 0 1 0" : "15 0 1 0 0";
            Checks.same("metric " + metric + " for 15", Look.route(known, 1, 7), due);
            Net y = Nets.line(2);
            y.ask(0, 1, 128);
            y.poke(0, 23, metric);
            y.deliver(0);
            Checks.same("metric " + metric + " in a request", Look.packets(y, 0),
                    sound ? Nets.response(1, 0, 7, 16) + "\n" : "");
        }
    }

    private static void othersArePassedOver() {
        Checks.says("others are passed over");
        for (int bad = 0; bad < 256; bad++) {
            Net x = Nets.line(2);
            x.ask(0, 1, 255);
            x.poke(0, 0, 2);
            Net y = Nets.line(2);
            y.ask(0, 1, 255);
            int good = 0;
            for (int d = 0; d < Nets.ROUTERS; d++) {
                x.poke(0, 23 + 20 * d, 3);
                if ((bad & 1 << d) != 0) {
                    x.poke(0, 4 + 20 * d, 1);
                    y.poke(0, 15 + 20 * d, 1);
                } else {
                    good++;
                }
            }
            x.deliver(0);
            y.deliver(0);
            for (int d = 0; d < Nets.ROUTERS; d++) {
                boolean heard = (bad & 1 << d) == 0;
                Checks.same("to " + d, x.route(1, d, 0), d == 1 ? 0 : heard ? 3 : -1);
            }
            Checks.same("answers", y.count(0), good == 0 ? 0 : 1);
            if (good > 0) {
                Checks.same("sound entries", y.packet(0, -1), 4 + 20 * good);
            }
        }
    }
}
