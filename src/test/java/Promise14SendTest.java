public final class Promise14SendTest {
    public static void main(String[] args) {
        hops();
        noRoute();
        linkDown();
        roundAndRound();
        sendingChangesNothing();
        wrongInputs();
        Checks.end();
    }

    private static void hops() {
        HopRouters x = Nets.settledLine(8);
        for (int a = 0; a < Nets.ROUTERS; a++) {
            for (int b = 0; b < Nets.ROUTERS; b++) {
                Checks.same("hops " + a + " " + b, x.send(a, b), Math.abs(a - b));
            }
        }
    }

    private static void noRoute() {
        HopRouters x = Nets.line(4);
        Checks.same("none at first", x.send(0, 3), -1);
        Nets.hear(x, 1, 0, 3, 15);
        Checks.same("none at 1", x.send(0, 3), -1);
        Nets.hear(x, 2, 1, 3, 1);
        Nets.hear(x, 3, 2, 3, 1);
        Checks.same("metric 15 will do", x.send(0, 3), 3);
        Nets.hear(x, 3, 2, 3, 16);
        Checks.same("16 on the way", x.send(0, 3), -1);
        x.link(2, 3, false);
        Checks.same("16 and a link that is down", x.send(2, 3), -1);
    }

    private static void linkDown() {
        HopRouters x = Nets.settledLine(4);
        x.link(2, 3, false);
        Checks.same("at the end", x.send(0, 3), -2);
        Checks.same("at once", x.send(3, 0), -2);
        Checks.same("not so far", x.send(0, 2), 2);
        x.link(2, 3, true);
        Checks.same("up again", x.send(0, 3), 3);
    }

    private static void roundAndRound() {
        HopRouters x = Nets.line(3);
        x.link(0, 2, true);
        Nets.hear(x, 1, 0, 7, 2);
        Nets.hear(x, 0, 1, 7, 2);
        Checks.same("between two", x.send(0, 7), -3);
        Checks.same("between two", x.send(1, 7), -3);
        Nets.hear(x, 0, 2, 7, 2);
        Checks.same("into the loop", x.send(2, 7), -3);
        Nets.hear(x, 2, 1, 7, 1);
        Checks.same("round three", x.send(0, 7), -3);
        x.link(0, 2, false);
        Checks.same("a link of the loop is down", x.send(0, 7), -2);
    }

    private static void sendingChangesNothing() {
        HopRouters x = Nets.settledLine(5);
        String before = Nets.state(x);
        x.send(0, 4);
        x.send(0, 7);
        Checks.same("state", Nets.state(x), before);
    }

    private static void wrongInputs() {
        HopRouters x = Nets.settledLine(3);
        int[] wrong = {-1, 8, Integer.MIN_VALUE, Integer.MAX_VALUE};
        for (int w : wrong) {
            Checks.noSuch("send(" + w + ", 0)", x, () -> x.send(w, 0));
            Checks.noSuch("send(0, " + w + ")", x, () -> x.send(0, w));
            Checks.noSuch("send of none to none", x, () -> x.send(w, w));
        }
    }
}
