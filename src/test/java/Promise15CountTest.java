public final class Promise15CountTest {
    public static void main(String[] args) {
        eachCount();
        lostForWantOfRoom();
        lostOverALink();
        notSound();
        changesNothing();
        noSuchWhat();
        Checks.end();
    }

    private static void counts(Net x, String what, int... due) {
        for (int i = 0; i < due.length; i++) {
            Checks.same(what + ", count(" + i + ")", x.count(i), due[i]);
        }
    }

    private static void eachCount() {
        Checks.says("How many: what = 0 packets in the air, .. 3 the time, 4 links that are UP");
        Net x = Nets.line(4);
        counts(x, "links", 0, 0, 0, 0, 3, 0);
        x.restart(1);
        counts(x, "sent", 2, 0, 2, 0, 3, 0);
        x.twice(0);
        counts(x, "a copy", 3, 0, 3, 0, 3, 0);
        x.cut(2, 0);
        x.deliver(2);
        counts(x, "not sound", 2, 0, 3, 0, 3, 1);
        x.lose(1);
        counts(x, "taken away", 1, 0, 3, 0, 3, 1);
        x.link(0, 1, false);
        x.deliver(0);
        counts(x, "over a link that is down", 0, 1, 3, 0, 2, 1);
        x.tick(3, false);
        counts(x, "ticks", 0, 1, 3, 3, 2, 1);
        x.ask(1, 2, 2);
        x.poke(0, 10, 9);
        x.deliver(0);
        counts(x, "sound, with an entry that is not", 0, 1, 4, 3, 2, 1);
    }

    private static void lostForWantOfRoom() {
        Checks.says("2 packets sent in all (those LOST for want of room, copies too)");
        Net x = Nets.withPackets(199);
        counts(x, "one less than full", 199, 0, 199, 0, 2, 0);
        x.ask(0, 1, 1);
        counts(x, "full", 200, 0, 200, 0, 2, 0);
        x.ask(0, 1, 1);
        counts(x, "a request more", 200, 1, 201, 0, 2, 0);
        x.twice(0);
        counts(x, "a copy more", 200, 2, 202, 0, 2, 0);
        x.restart(1);
        counts(x, "two requests for all more", 200, 4, 204, 0, 2, 0);
        x.tick(8, false);
        counts(x, "2 tells 1 at 8", 200, 5, 205, 8, 2, 0);
    }

    private static void lostOverALink() {
        Checks.says("1 packets LOST (also those that came over a link that was down)");
        Net x = Nets.fullAir();
        x.ask(0, 1, 1);
        counts(x, "for want of room", 200, 1, 201, 0, 2, 0);
        x.link(0, 1, false);
        x.deliver(0);
        counts(x, "and over a link", 199, 2, 201, 0, 1, 0);
        Checks.same("and all others", x.tick(1, true), 0);
        counts(x, "all", 0, 201, 201, 1, 1, 0);
    }

    private static void notSound() {
        Checks.says("5 packets that came and were not SOUND");
        Net x = Nets.withPackets(5);
        for (int k = 0; k < 4; k++) {
            x.poke(k, k, 3);
        }
        x.cut(4, 23);
        counts(x, "none came", 5, 0, 5, 0, 2, 0);
        for (int came = 1; came <= 5; came++) {
            x.deliver(0);
            counts(x, came + " came", 5 - came, 0, 5, 0, 2, came);
        }
        x.ask(0, 1, 1);
        x.deliver(0);
        counts(x, "a sound one", 1, 0, 7, 0, 2, 5);
    }

    private static void changesNothing() {
        Checks.says("How many");
        Net x = Nets.busy();
        String before = Look.state(x);
        counts(x, "busy", 3, 1, x.count(2), 83, 2, 1);
        Checks.same("state", Look.state(x), before);
    }

    private static void noSuchWhat() {
        Checks.says("IndexOutOfBoundsException: there is no such router, packet, byte, what.");
        Net x = Nets.busy();
        int[] wrong = {-1, 6, -2, 7, Integer.MIN_VALUE, Integer.MAX_VALUE};
        for (int w : wrong) {
            Checks.noSuch("count(" + w + ")", x, () -> x.count(w));
        }
        Checks.same("0", x.count(0), 3);
        Checks.same("5", x.count(5), 1);
    }
}
