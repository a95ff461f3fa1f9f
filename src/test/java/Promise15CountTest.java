public final class Promise15CountTest {
    public static void main(String[] args) {
        eachCount();
        lostInBothWays();
        wrongInputs();
        Checks.end();
    }

    private static void counts(HopRouters x, String what, int... due) {
        for (int i = 0; i < due.length; i++) {
            Checks.same(what + ", count(" + i + ")", x.count(i), due[i]);
        }
    }

    private static void eachCount() {
        HopRouters x = Nets.line(4);
        counts(x, "links", 0, 0, 0, 0, 3, 0);
        x.restart(1);
        counts(x, "sent", 2, 0, 2, 0, 3, 0);
        x.twice(0);
        counts(x, "a copy", 3, 0, 3, 0, 3, 0);
        x.cut(2, 0);
        x.deliver(2);
        counts(x, "not sound", 2, 0, 3, 0, 3, 1);
        x.lose(1);
        counts(x, "taken away", 1, 0, 3, 0, 3, 1);
        x.link(0, 1, false);
        x.deliver(0);
        counts(x, "over a link that is down", 0, 1, 3, 0, 2, 1);
        x.tick(3, false);
        counts(x, "ticks", 0, 1, 3, 3, 2, 1);
        x.ask(1, 2, 2);
        x.poke(0, 10, 9);
        x.deliver(0);
        counts(x, "sound, with an entry that is not", 0, 1, 4, 3, 2, 1);
    }

    private static void lostInBothWays() {
        HopRouters x = Nets.fullAir();
        x.ask(0, 1, 1);
        x.twice(0);
        counts(x, "for want of room", 200, 2, 202, 0, 1, 0);
        x.link(0, 1, false);
        x.deliver(0);
        counts(x, "and over a link", 199, 3, 202, 0, 0, 0);
        Checks.same("and all others", x.tick(1, true), 0);
        counts(x, "all", 0, 202, 202, 1, 0, 0);
    }

    private static void wrongInputs() {
        HopRouters x = Nets.settledLine(3);
        int[] wrong = {-1, 6, Integer.MIN_VALUE, Integer.MAX_VALUE};
        for (int w : wrong) {
            Checks.noSuch("count(" + w + ")", x, () -> x.count(w));
        }
    }
}
