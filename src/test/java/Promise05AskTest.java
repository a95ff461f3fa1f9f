public final class Promise05AskTest {
    public static void main(String[] args) {
        anEntryForEachBit();
        everyNumber();
        howManyInTheAir();
        noSuchRouter();
        bothAreTheSame();
        theNumberIsNotAsSaid();
        theLinkIsDown();
        Checks.end();
    }

    private static void anEntryForEachBit() {
        Checks.says("A router sends another one a request with an entry (metric 16) for each of some "
                + "destinations, bits of a number, by D: how many packets are in the air then.");
        Net x = Nets.line(2);
        Checks.same("bit 0", x.ask(0, 1, 1), 1);
        Checks.same("bit 7", x.ask(1, 0, 128), 2);
        Checks.same("some", x.ask(0, 1, 0b1000101), 3);
        Checks.same("all", x.ask(0, 1, 255), 4);
        Checks.same("all but 0 and 7", x.ask(1, 0, 126), 5);
        Checks.same("bit 0", Look.packet(x, 0), Nets.request(0, 1, 0));
        Checks.same("bit 7", Look.packet(x, 1), Nets.request(1, 0, 7));
        Checks.same("by D", Look.packet(x, 2), Nets.request(0, 1, 0, 2, 6));
        Checks.same("all bits", Look.packet(x, 3), Nets.request(0, 1, 0, 1, 2, 3, 4, 5, 6, 7));
        Checks.same("six bits", Look.packet(x, 4), Nets.request(1, 0, 1, 2, 3, 4, 5, 6));
        Checks.same("sent", x.count(2), 5);
    }

    private static void everyNumber() {
        Checks.says("the number is not 1 .. 255");
        for (int number = 1; number <= 255; number++) {
            Net x = new Net();
            x.link(0, 7, true);
            Checks.same("ask for " + number, x.ask(7, 0, number), 1);
            Checks.same("length", x.packet(0, -1), 4 + 20 * Integer.bitCount(number));
            int at = 4;
            for (int d = 0; d < Nets.ROUTERS; d++) {
                if ((number & 1 << d) != 0) {
                    Checks.same("D", x.packet(0, at + 6), d);
                    at += 20;
                }
            }
        }
    }

    private static void howManyInTheAir() {
        Checks.says("200 at most: one that would be more is LOST");
        Net x = Nets.withPackets(198);
        Checks.same("the 199th", x.ask(1, 2, 9), 199);
        Checks.same("the 200th", x.ask(2, 1, 6), 200);
        Checks.same("none lost", Look.counts(x), "200 0 200 0 2 0");
        String packets = Look.packets(x, 0);
        Checks.same("the 201st", x.ask(0, 1, 255), 200);
        Checks.same("one lost", Look.counts(x), "200 1 201 0 2 0");
        Checks.same("the others stay", Look.packets(x, 0), packets);
        x.lose(0);
        Checks.same("room again", x.ask(0, 1, 255), 200);
        Checks.same("still one lost", Look.counts(x), "200 1 202 0 2 0");
        Checks.same("it is the last", Look.packet(x, 199), Nets.request(0, 1, 0, 1, 2, 3, 4, 5, 6, 7));
    }

    private static void noSuchRouter() {
        Checks.says("Methods throw what their comments name, the one named first when several would do. "
                + "IndexOutOfBoundsException: there is no such router");
        Net x = Nets.busy();
        for (int w : Nets.NO_ROUTER) {
            for (int r = 0; r < Nets.ROUTERS; r++) {
                int there = r;
                Checks.noSuch("ask(" + w + ", " + r + ", 1)", x, () -> x.ask(w, there, 1));
                Checks.noSuch("ask(" + r + ", " + w + ", 1)", x, () -> x.ask(there, w, 1));
            }
            Checks.noSuch("also a wrong number", x, () -> x.ask(w, 1, 0));
            Checks.noSuch("also a wrong number", x, () -> x.ask(1, w, 256));
            Checks.noSuch("both the same, and none", x, () -> x.ask(w, w, 1));
        }
        x.link(0, 7, true);
        int before = x.count(0);
        Checks.same("0 and 7 are there", x.ask(0, 7, 1), before + 1);
        Checks.same("7 and 0 are there", x.ask(7, 0, 1), before + 2);
    }

    private static void bothAreTheSame() {
        Checks.says("IllegalArgumentException: both are the same");
        Net x = Nets.busy();
        for (int r = 0; r < Nets.ROUTERS; r++) {
            int same = r;
            Checks.notAsSaid("ask of " + r, x, () -> x.ask(same, same, 1));
            Checks.notAsSaid("also a wrong number", x, () -> x.ask(same, same, 0));
        }
    }

    private static void theNumberIsNotAsSaid() {
        Checks.says("or the number is not 1 .. 255");
        Net x = Nets.busy();
        int[] numbers = {0, -1, 256, 257, 511, 512, -255, -256, 1 << 16, Integer.MIN_VALUE,
            Integer.MIN_VALUE + 1, Integer.MAX_VALUE};
        for (int n : numbers) {
            Checks.notAsSaid("ask(0, 1, " + n + ")", x, () -> x.ask(0, 1, n));
            Checks.notAsSaid("ask(0, 2, " + n + "), also down", x, () -> x.ask(0, 2, n));
        }
        int before = x.count(0);
        Checks.same("1", x.ask(0, 1, 1), before + 1);
        Checks.same("255", x.ask(0, 1, 255), before + 2);
    }

    private static void theLinkIsDown() {
        Checks.says("IllegalStateException: the link is down.");
        Net x = Nets.settledLine(3);
        Checks.notNow("never up", x, () -> x.ask(0, 2, 1));
        Checks.notNow("never up", x, () -> x.ask(2, 0, 255));
        Checks.same("up", x.ask(0, 1, 1), 1);
        x.link(0, 1, false);
        Checks.notNow("down", x, () -> x.ask(0, 1, 1));
        Checks.notNow("down", x, () -> x.ask(1, 0, 255));
        x.link(0, 1, true);
        Checks.same("up again", x.ask(1, 0, 1), 2);
        Net full = Nets.fullAir();
        Checks.notNow("down, and no room", full, () -> full.ask(0, 2, 1));
    }
}
