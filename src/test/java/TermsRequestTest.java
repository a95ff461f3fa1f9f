/** How a request is answered. */
public final class TermsRequestTest {
    public static void main(String[] args) {
        forAll();
        forAllWhateverDIs();
        forAllFamilyAndMetric();
        forAllAllOtherBytes();
        oneEntryOnly();
        forSome();
        fromOneToEight();
        withoutMore();
        withoutASoundEntry();
        changesNoTable();
        Checks.end();
    }

    private static void forAll() {
        Checks.says("the router TELLS the one it is from all routes, and itself.");
        Net x = Nets.line(3);
        Nets.hear(x, 0, 1, 0, 1);
        Nets.hear(x, 2, 1, 6, 3);
        x.restart(0);
        x.deliver(0);
        Checks.same("to 0", Look.packets(x, 0), Nets.response(1, 0, 1, 1, 0, 16, 6, 4) + "\n");
        Checks.same("still changed", x.route(1, 6, 3), 1);
        x.restart(2);
        x.deliver(1);
        Checks.same("to 2", Look.packets(x, 1), Nets.response(1, 2, 1, 1, 0, 2, 6, 16) + "\n");
        Net none = Nets.line(2);
        none.restart(0);
        none.deliver(0);
        Checks.same("itself alone", Look.packets(none, 0), Nets.response(1, 0, 1, 1) + "\n");
    }

    private static void forAllWhateverDIs() {
        Checks.says("(whatever D is; ..): the router TELLS the one it is from all routes, and itself.");
        for (int d = 0; d <= 255; d++) {
            Net x = Nets.line(2);
            Nets.hear(x, 0, 1, 7, 2);
            x.restart(0);
            x.poke(0, 10, d);
            x.deliver(0);
            Checks.same("D " + d, Look.packets(x, 0), Nets.response(1, 0, 1, 1, 7, 16) + "\n");
        }
    }

    private static void forAllFamilyAndMetric() {
        Checks.says("REQUEST: if it has one entry, of which the family is 0 and the metric 16");
        String all = Nets.response(1, 0, 1, 1, 7, 16) + "\n";
        for (int v = 0; v <= 255; v++) {
            Net x = Nets.line(2);
            Nets.hear(x, 0, 1, 7, 2);
            x.restart(0);
            x.poke(0, 23, v);
            x.deliver(0);
            Checks.same("metric " + v, Look.packets(x, 0), v == 16 ? all : "");
            Net y = Nets.line(2);
            Nets.hear(y, 0, 1, 7, 2);
            y.restart(0);
            y.poke(0, 5, v);
            y.deliver(0);
            String one = Nets.response(1, 0, 0, 16) + "\n";
            Checks.same("family " + v, Look.packets(y, 0), v == 0 ? all : v == 2 ? one : "");
            Checks.same("both are sound packets", x.count(5) + y.count(5), 0);
        }
    }

    private static void forAllAllOtherBytes() {
        Checks.says("bytes 0, 2, 3 are 0, all others as above");
        int[] plain = {0, 0, 0, 0, 10, 0, 0, 0, 255, 255, 255, 0, 0, 0, 0, 0, 0, 0, 0, 16};
        for (int i = 0; i < 19; i++) {
            for (int v = 0; v <= 255 && i != 1 && i != 6; v++) {
                Net x = Nets.line(2);
                x.restart(0);
                x.poke(0, 4 + i, v);
                x.deliver(0);
                Checks.same("byte " + i + " = " + v, x.count(0), v == plain[i] ? 1 : 0);
                Checks.same("the packet is sound", x.count(5), 0);
            }
        }
    }

    private static void oneEntryOnly() {
        Checks.says("REQUEST: if it has one entry, of which the family is 0 and the metric 16");
        for (int other = 0; other <= 1; other++) {
            Net two = Nets.line(2);
            Nets.hear(two, 0, 1, 7, 2);
            two.ask(0, 1, 0b110);
            two.poke(0, 5 + 20 * other, 0);
            two.deliver(0);
            Checks.same("family 0 among two", Look.packets(two, 0),
                    Nets.response(1, 0, 2 - other, 16 - 15 * other) + "\n");
        }
        Net both = Nets.line(2);
        both.ask(0, 1, 0b110);
        both.poke(0, 5, 0);
        both.poke(0, 25, 0);
        both.deliver(0);
        Checks.same("both of family 0", Look.counts(both), "0 0 1 0 1 0");
        Net one = Nets.line(2);
        one.ask(0, 1, 0b110);
        one.poke(0, 5, 0);
        one.cut(0, 24);
        one.deliver(0);
        Checks.same("cut to one", Look.packets(one, 0), Nets.response(1, 0, 1, 1) + "\n");
    }

    private static void forSome() {
        Checks.says("Else it sends it a response with the sound entries, in their order");
        Net x = Nets.line(3);
        Nets.hear(x, 2, 1, 6, 3);
        x.ask(2, 1, 0b11000111);
        x.poke(0, 10, 6);
        x.poke(0, 23, 1);
        x.poke(0, 43, 17);
        x.poke(0, 70, 8);
        x.deliver(0);
        Checks.same("sound ones, in their order", Look.packets(x, 0),
                Nets.response(1, 2, 6, 3, 2, 16, 7, 16) + "\n");
        Net same = Nets.line(2);
        same.ask(0, 1, 0b111);
        same.poke(0, 30, 0);
        same.poke(0, 50, 0);
        same.deliver(0);
        Checks.same("the same one thrice", Look.packets(same, 0),
                Nets.response(1, 0, 0, 16, 0, 16, 0, 16) + "\n");
    }

    private static void fromOneToEight() {
        Checks.says("with the metric of each as its own table has it (itself: 1; no route: 16)");
        for (int number = 1; number <= 255; number++) {
            Net x = Nets.line(3);
            Nets.hear(x, 2, 1, 0, 15);
            Nets.hear(x, 2, 1, 3, 1);
            Nets.hear(x, 0, 1, 7, 9);
            Nets.hear(x, 2, 1, 5, 9);
            Nets.hear(x, 2, 1, 5, 16);
            x.ask(0, 1, number);
            x.deliver(0);
            int[] metrics = {15, 1, 16, 1, 16, 16, 16, 9};
            int[] entries = new int[2 * Integer.bitCount(number)];
            int n = 0;
            for (int d = 0; d < Nets.ROUTERS; d++) {
                if ((number & 1 << d) != 0) {
                    entries[n] = d;
                    entries[n + 1] = metrics[d];
                    n += 2;
                }
            }
            Checks.same("asked for " + number, Look.packets(x, 0), Nets.response(1, 0, entries) + "\n");
        }
    }

    private static void withoutMore() {
        Checks.says("as its own table has it (..), without more");
        for (int metric = 1; metric <= 15; metric++) {
            for (int asks = 0; asks <= 2; asks += 2) {
                Net x = Nets.line(3);
                Nets.hear(x, 0, 1, 7, metric);
                x.ask(asks, 1, 128);
                x.deliver(0);
                Checks.same("metric " + metric + " for " + asks, Look.packets(x, 0),
                        Nets.response(1, asks, 7, metric) + "\n");
            }
        }
    }

    private static void withoutASoundEntry() {
        Checks.says("without one nothing");
        for (int entries = 1; entries <= 8; entries++) {
            Net x = Nets.line(2);
            x.ask(0, 1, (1 << entries) - 1);
            for (int e = 0; e < entries; e++) {
                x.poke(0, 23 + 20 * e, 0);
            }
            Net y = x.twin();
            x.deliver(0);
            Checks.same("none of " + entries, Look.counts(x), "0 0 1 0 1 0");
            y.poke(0, 23 + 20 * (entries - 1), 16);
            y.deliver(0);
            Checks.same("the last of " + entries, Look.packets(y, 0),
                    Nets.response(1, 0, entries - 1, entries == 2 ? 1 : 16) + "\n");
        }
    }

    private static void changesNoTable() {
        Checks.says("REQUEST: .. it sends it a response");
        Net x = Nets.settledLine(4);
        Nets.hear(x, 0, 1, 7, 5);
        String routes = routes(x);
        x.ask(0, 1, 255);
        x.deliver(0);
        x.lose(0);
        Checks.same("asked for some", routes(x), routes);
        x.restart(0);
        String behind = routes(x);
        x.deliver(0);
        x.lose(0);
        Checks.same("asked for all", routes(x), behind);
    }

    private static String routes(Net x) {
        StringBuilder s = new StringBuilder();
        for (int i = 0; i < 64; i++) {
            s.append(Look.route(x, i / 8, i % 8)).append('\n');
        }
        return s.toString();
    }
}
