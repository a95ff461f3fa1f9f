public final class Promise08LoseTest {
    public static void main(String[] args) {
        goesOut();
        doesNotCountAsLost();
        fromFullToEmpty();
        noSuchPacket();
        Checks.end();
    }

    private static void goesOut() {
        Checks.says("Packet k goes out of the air");
        for (int k = 0; k < 5; k++) {
            Net x = Nets.line(2);
            StringBuilder left = new StringBuilder();
            for (int i = 0; i < 5; i++) {
                x.ask(0, 1, 1 << i);
                left.append(i == k ? "" : Nets.request(0, 1, i) + "\n");
            }
            Checks.same("lose(" + k + ")", x.lose(k), 4);
            Checks.same("left", Look.packets(x, 0), left.toString());
        }
    }

    private static void doesNotCountAsLost() {
        Checks.says("(it does not count as LOST): how many are left.");
        Net x = Nets.withPackets(2);
        x.cut(1, 0);
        Nets.responseInAir(x, 0, 1, 7, 3);
        Checks.same("a response", x.lose(2), 2);
        Checks.same("did not come", Look.route(x, 1, 7), Look.NO_ROUTE);
        Checks.same("one that is not sound", x.lose(1), 1);
        x.link(0, 1, false);
        Checks.same("one over a link that is down", x.lose(0), 0);
        Checks.same("counts", Look.counts(x), "0 0 3 0 1 0");
    }

    private static void fromFullToEmpty() {
        Checks.says("how many are left");
        Net x = Nets.fullAir();
        for (int left = 199; left >= 0; left--) {
            Checks.same("lose", x.lose(left % 3 == 0 ? left : 0), left);
        }
        Checks.same("counts", Look.counts(x), "0 0 200 0 2 0");
        Checks.same("room again", x.ask(1, 0, 1), 1);
        Net full = Nets.fullAir();
        full.lose(199);
        Checks.same("room for one", full.ask(1, 0, 1), 200);
        Checks.same("that is not lost", full.count(1), 0);
        Checks.same("room for no other", full.ask(1, 0, 1), 200);
        Checks.same("that is lost", full.count(1), 1);
    }

    private static void noSuchPacket() {
        Checks.says("IndexOutOfBoundsException: there is no such router, packet");
        Net none = Nets.line(2);
        Checks.noSuch("the first of none", none, () -> none.lose(0));
        Checks.noSuch("-1 of none", none, () -> none.lose(-1));
        Net x = Nets.busy();
        int size = x.count(0);
        int[] wrong = {-1, size, size + 1, 199, 200, Integer.MIN_VALUE, Integer.MAX_VALUE};
        for (int w : wrong) {
            Checks.noSuch("lose(" + w + ")", x, () -> x.lose(w));
        }
        Checks.same("the last is there", x.lose(size - 1), size - 1);
        Checks.noSuch("and is not any more", x, () -> x.lose(size - 1));
        Net full = Nets.fullAir();
        Checks.noSuch("lose(200)", full, () -> full.lose(200));
        Checks.noSuch("lose(-1)", full, () -> full.lose(-1));
        Checks.same("lose(199)", full.lose(199), 199);
    }
}
