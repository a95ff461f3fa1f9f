public final class Promise09TwiceTest {
    public static void main(String[] args) {
        aCopyBehindAllOthers();
        theCopyIsApart();
        aFullAir();
        wrongInputs();
        Checks.end();
    }

    private static void aCopyBehindAllOthers() {
        HopRouters x = Nets.line(2);
        x.ask(0, 1, 1);
        x.ask(1, 0, 255);
        x.ask(0, 1, 2);
        x.poke(1, 9, 77);
        x.cut(1, 101);
        String second = Nets.packet(x, 1);
        Checks.same("four", x.twice(1), 4);
        Checks.same("the copy", Nets.packet(x, 3), second);
        Checks.same("the other", Nets.packet(x, 1), second);
        Checks.same("counts as sent", x.count(2), 4);
        x.link(0, 1, false);
        Checks.same("also when the link is down", x.twice(0), 5);
    }

    private static void theCopyIsApart() {
        HopRouters x = Nets.line(2);
        x.ask(0, 1, 3);
        x.twice(0);
        x.poke(1, 0, 9);
        x.cut(1, 7);
        Checks.same("the first stays", Nets.packet(x, 0), Nets.due(0, 1, 1, 2, 0, 16, 2, 1, 16));
        x.twice(0);
        x.poke(0, 0, 8);
        Checks.same("so does a copy", Nets.packet(x, 2), Nets.due(0, 1, 1, 2, 0, 16, 2, 1, 16));
    }

    private static void aFullAir() {
        HopRouters x = Nets.fullAir();
        String last = Nets.packet(x, 199);
        Checks.same("full", x.twice(0), 200);
        Checks.same("the last stays", Nets.packet(x, 199), last);
        Checks.same("lost", x.count(1), 1);
        Checks.same("sent", x.count(2), 201);
        x.lose(7);
        Checks.same("room for one", x.twice(3), 200);
        Checks.same("lost", x.count(1), 1);
        Checks.same("sent", x.count(2), 202);
        Checks.same("the copy", Nets.packet(x, 199), Nets.packet(x, 3));
    }

    private static void wrongInputs() {
        HopRouters x = Nets.line(2);
        Checks.noSuch("twice(0) of none", x, () -> x.twice(0));
        x.ask(0, 1, 1);
        int[] wrong = {-1, 1, 200, Integer.MIN_VALUE, Integer.MAX_VALUE};
        for (int w : wrong) {
            Checks.noSuch("twice(" + w + ")", x, () -> x.twice(w));
        }
        HopRouters full = Nets.fullAir();
        Checks.noSuch("twice(200)", full, () -> full.twice(200));
    }
}
