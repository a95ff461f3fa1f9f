/** The air has room for 200 packets: each way by which a packet is sent meets that edge. */
public final class TermsAirTest {
    private static final String SAYS =
            "THE AIR has packets, the oldest first, 200 at most: one that would be more is LOST";

    public static void main(String[] args) {
        theOldestFirst();
        tellingInTurn();
        tellingChanges();
        requestsAndCopies();
        anAnswer();
        Checks.end();
    }

    private static void theOldestFirst() {
        Checks.says(SAYS);
        Net x = Nets.line(3);
        x.tick(8, false);
        x.ask(0, 1, 4);
        x.restart(1);
        x.twice(1);
        x.tick(1, false);
        Checks.same("by their time", Look.packets(x, 0), Nets.response(2, 1, 2, 1) + "\n"
                + Nets.request(0, 1, 2) + "\n"
                + Nets.requestForAll(1, 0) + "\n" + Nets.requestForAll(1, 2) + "\n"
                + Nets.request(0, 1, 2) + "\n"
                + Nets.response(1, 0, 1, 1) + "\n" + Nets.response(1, 2, 1, 1) + "\n");
    }

    private static void tellingInTurn() {
        Checks.says(SAYS);
        for (int before = 197; before <= 200; before++) {
            Net x = Nets.withPackets(before);
            x.link(1, 2, false);
            x.tick(8, false);
            x.link(1, 7, true);
            x.link(1, 2, true);
            int room = 200 - before;
            Checks.same("1 tells three at 9, behind " + before, x.tick(1, false), 200);
            Checks.same("counts", Look.counts(x), "200 " + (3 - room) + " " + (before + 3) + " 9 3 0");
            int[] neighbours = {0, 2, 7};
            StringBuilder due = new StringBuilder();
            for (int i = 0; i < room; i++) {
                due.append(Nets.response(1, neighbours[i], 1, 1)).append('\n');
            }
            Checks.same("those before the full air", Look.packets(x, before), due.toString());
        }
        Net forLong = Nets.line(2);
        Checks.same("990 ticks", forLong.tick(990, false), 198);
        Checks.same("one more", forLong.tick(9, false), 199);
        Checks.same("one more", forLong.tick(1, false), 200);
        Checks.same("none is lost", forLong.count(1), 0);
        Checks.same("nobody tells", forLong.tick(8, false), 200);
        Checks.same("none is lost", forLong.count(1), 0);
        Checks.same("1 tells", forLong.tick(1, false), 200);
        Checks.same("one is lost", Look.counts(forLong), "200 1 201 1009 1 0");
        forLong.tick(1, false);
        Checks.same("two are lost", Look.counts(forLong), "200 2 202 1010 1 0");
    }

    private static void tellingChanges() {
        Checks.says(SAYS);
        for (int before = 198; before <= 200; before++) {
            Net x = Nets.line(3);
            Nets.hear(x, 0, 1, 7, 3);
            for (int i = 0; i < before; i++) {
                x.ask(0, 1, 1);
            }
            int room = 200 - before;
            Checks.same("1 tells two, behind " + before, x.tick(1, false), 200);
            Checks.same("counts", Look.counts(x), "200 " + (2 - room) + " " + (before + 3) + " 1 2 0");
            Checks.same("it is told, though lost", x.route(1, 7, 3), 0);
            if (room > 0) {
                Checks.same("to 0 first", Look.packet(x, before), Nets.response(1, 0, 7, 16));
            }
        }
    }

    private static void requestsAndCopies() {
        Checks.says(SAYS);
        Net x = Nets.withPackets(196);
        Checks.same("197", x.ask(0, 1, 1), 197);
        Checks.same("198", x.twice(0), 198);
        Checks.same("200", x.restart(1), 200);
        Checks.same("none is lost", Look.counts(x), "200 0 200 0 2 0");
        Checks.same("ask", x.ask(0, 1, 1), 200);
        Checks.same("one is lost", Look.counts(x), "200 1 201 0 2 0");
        Checks.same("twice", x.twice(0), 200);
        Checks.same("two are lost", Look.counts(x), "200 2 202 0 2 0");
        Checks.same("restart", x.restart(1), 200);
        Checks.same("four are lost", Look.counts(x), "200 4 204 0 2 0");
    }

    private static void anAnswer() {
        Checks.says(SAYS);
        Net x = Nets.withPackets(199);
        x.restart(0);
        Checks.same("full", Look.counts(x), "200 0 200 0 2 0");
        x.deliver(199);
        Checks.same("its place is free for its answer", Look.counts(x), "200 0 201 0 2 0");
        Checks.same("the answer", Look.packet(x, 199), Nets.response(1, 0, 1, 1));
        x.deliver(0);
        Checks.same("so is any other's", Look.counts(x), "200 0 202 0 2 0");
        Checks.same("the answer", Look.packet(x, 199), Nets.response(1, 0, 0, 16));
    }
}
