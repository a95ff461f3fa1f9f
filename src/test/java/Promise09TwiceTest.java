public final class Promise09TwiceTest {
    public static void main(String[] args) {
        aCopyBehindAllOthers();
        theCopyIsApart();
        orIsLost();
        noSuchPacket();
        Checks.end();
    }

    private static void aCopyBehindAllOthers() {
        Checks.says("A copy of packet k comes behind all others (or is LOST): how many there are.");
        for (int k = 0; k < 3; k++) {
            Net x = Nets.line(2);
            x.ask(0, 1, 1);
            x.ask(1, 0, 255);
            x.poke(1, 9, 77);
            x.cut(1, 101);
            x.ask(0, 1, 2);
            x.cut(2, 0);
            String before = Look.packets(x, 0);
            String original = Look.packet(x, k);
            Checks.same("twice(" + k + ")", x.twice(k), 4);
            Checks.same("packets", Look.packets(x, 0), before + original + "\n");
            Checks.same("counts", Look.counts(x), "4 0 4 0 1 0");
            Checks.same("a copy of the copy", x.twice(3), 5);
            Checks.same("packets", Look.packets(x, 0), before + original + "\n" + original + "\n");
            x.link(0, 1, false);
            Checks.same("also when the link is down", x.twice(0), 6);
        }
    }

    private static void theCopyIsApart() {
        Checks.says("A copy of packet k comes behind all others");
        Net x = Nets.line(2);
        x.ask(0, 1, 3);
        x.twice(0);
        x.poke(1, 0, 9);
        x.cut(1, 7);
        Checks.same("the first stays", Look.packet(x, 0), Nets.request(0, 1, 0, 1));
        x.twice(0);
        x.poke(0, 0, 8);
        Checks.same("so does a copy", Look.packet(x, 2), Nets.request(0, 1, 0, 1));
        x.lose(0);
        Checks.same("also without the first", Look.packet(x, 1), Nets.request(0, 1, 0, 1));
        Net both = Nets.line(2);
        both.ask(0, 1, 1);
        both.twice(0);
        both.deliver(0);
        both.deliver(0);
        Checks.same("both come", Look.packets(both, 0),
                Nets.response(1, 0, 0, 16) + "\n" + Nets.response(1, 0, 0, 16) + "\n");
    }

    private static void orIsLost() {
        Checks.says("A copy of packet k comes behind all others (or is LOST): how many there are.");
        Net x = Nets.withPackets(198);
        Checks.same("the 199th", x.twice(0), 199);
        Checks.same("the 200th", x.twice(3), 200);
        Checks.same("none lost", Look.counts(x), "200 0 200 0 2 0");
        String packets = Look.packets(x, 0);
        Checks.same("the 201st", x.twice(7), 200);
        Checks.same("one lost", Look.counts(x), "200 1 201 0 2 0");
        Checks.same("the last", x.twice(199), 200);
        Checks.same("two lost", Look.counts(x), "200 2 202 0 2 0");
        Checks.same("all others stay", Look.packets(x, 0), packets);
        x.lose(7);
        Checks.same("room for one", x.twice(3), 200);
        Checks.same("two lost", Look.counts(x), "200 2 203 0 2 0");
        Checks.same("the copy", Look.packet(x, 199), Look.packet(x, 3));
    }

    private static void noSuchPacket() {
        Checks.says("IndexOutOfBoundsException: there is no such router, packet");
        Net none = Nets.line(2);
        Checks.noSuch("the first of none", none, () -> none.twice(0));
        Checks.noSuch("-1 of none", none, () -> none.twice(-1));
        Net x = Nets.busy();
        int size = x.count(0);
        int[] wrong = {-1, size, size + 1, 199, 200, Integer.MIN_VALUE, Integer.MAX_VALUE};
        for (int w : wrong) {
            Checks.noSuch("twice(" + w + ")", x, () -> x.twice(w));
        }
        Checks.same("the last is there", x.twice(size - 1), size + 1);
        Net full = Nets.fullAir();
        Checks.noSuch("twice(200)", full, () -> full.twice(200));
        Checks.noSuch("twice(-1)", full, () -> full.twice(-1));
    }
}
