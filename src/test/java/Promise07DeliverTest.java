public final class Promise07DeliverTest {
    public static void main(String[] args) {
        isTakenOut();
        andComes();
        whetherTheLinkWasUp();
        aFullAir();
        noSuchPacket();
        Checks.end();
    }

    private static void isTakenOut() {
        Checks.says("Packet k is taken out of the air, and comes");
        for (int k = 0; k < 5; k++) {
            Net x = Nets.line(2);
            StringBuilder left = new StringBuilder();
            for (int i = 0; i < 5; i++) {
                Nets.responseInAir(x, 0, 1, 2 + i, 3 + i);
                left.append(i == k ? "" : Nets.response(0, 1, 2 + i, 3 + i) + "\n");
            }
            Checks.same("deliver(" + k + ")", x.deliver(k), true);
            Checks.same("left", Look.packets(x, 0), left.toString());
            for (int i = 0; i < 5; i++) {
                String due = i == k ? 3 + i + " 0 0 1 0" : Look.NO_ROUTE;
                Checks.same("the route to " + (2 + i), Look.route(x, 1, 2 + i), due);
            }
        }
    }

    private static void andComes() {
        Checks.says("Packet k is taken out of the air, and comes");
        Net x = Nets.line(2);
        Nets.responseInAir(x, 0, 1, 7, 4);
        Checks.same("it is not there yet", Look.route(x, 1, 7), Look.NO_ROUTE);
        x.deliver(0);
        Checks.same("it is there", Look.route(x, 1, 7), "4 0 0 1 0");
        Checks.same("the one it is from does not hear it", Look.route(x, 0, 7), Look.NO_ROUTE);
        Checks.same("counts", Look.counts(x), "0 0 1 0 1 0");
    }

    private static void whetherTheLinkWasUp() {
        Checks.says("A packet that comes (a link FROM - TO that is down: it is lost)");
        Net x = Nets.line(3);
        Nets.responseInAir(x, 0, 1, 7, 3);
        x.twice(0);
        x.cut(1, 3);
        x.restart(0);
        x.link(0, 1, false);
        Checks.same("down", x.deliver(0), false);
        Checks.same("no route", Look.route(x, 1, 7), Look.NO_ROUTE);
        Checks.same("lost", Look.counts(x), "2 1 3 0 1 0");
        Checks.same("down and not sound", x.deliver(0), false);
        Checks.same("lost, and no more", Look.counts(x), "1 2 3 0 1 0");
        Checks.same("a request", x.deliver(0), false);
        Checks.same("is not answered", Look.counts(x), "0 3 3 0 1 0");
        x.link(0, 1, true);
        Nets.responseInAir(x, 0, 1, 7, 3);
        x.link(0, 1, false);
        x.link(1, 0, true);
        Checks.same("up again", x.deliver(0), true);
        Checks.same("came", x.route(1, 7, 0), 3);
        x.ask(0, 1, 1);
        x.cut(0, 0);
        Checks.same("up and not sound", x.deliver(0), true);
    }

    private static void aFullAir() {
        Checks.says("THE AIR has packets, the oldest first, 200 at most: one that would be more is LOST");
        for (int n = 199; n <= 200; n++) {
            Net x = Nets.withPackets(n);
            Checks.same("the last of " + n, x.deliver(n - 1), true);
            Checks.same("its answer has the room that it had", Look.counts(x),
                    n + " 0 " + (n + 1) + " 0 2 0");
            Checks.same("the answer is the last", x.packet(n - 1, -3), 1);
            Checks.same("the first", x.deliver(0), true);
            Checks.same("nothing is lost", Look.counts(x), n + " 0 " + (n + 2) + " 0 2 0");
            Checks.same("the answer is the last", Look.packet(x, n - 1), Nets.response(1, 0, 0, 16));
        }
    }

    private static void noSuchPacket() {
        Checks.says("IndexOutOfBoundsException: there is no such router, packet");
        Net none = Nets.line(2);
        Checks.noSuch("the first of none", none, () -> none.deliver(0));
        Checks.noSuch("-1 of none", none, () -> none.deliver(-1));
        Net x = Nets.busy();
        int size = x.count(0);
        int[] wrong = {-1, size, size + 1, 199, 200, Integer.MIN_VALUE, Integer.MAX_VALUE};
        for (int w : wrong) {
            Checks.noSuch("deliver(" + w + ")", x, () -> x.deliver(w));
        }
        x.deliver(size - 1);
        Net full = Nets.fullAir();
        Checks.noSuch("deliver(200)", full, () -> full.deliver(200));
        Checks.noSuch("deliver(-1)", full, () -> full.deliver(-1));
        Checks.same("deliver(199)", full.deliver(199), true);
        Net last = Nets.withPackets(1);
        last.link(0, 1, false);
        last.deliver(0);
        Checks.noSuch("taken out already", last, () -> last.deliver(0));
    }
}
