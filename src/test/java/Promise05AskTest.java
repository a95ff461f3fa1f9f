public final class Promise05AskTest {
    public static void main(String[] args) {
        oneEntryForEachBit();
        aFullAir();
        wrongInputs();
        Checks.end();
    }

    private static void oneEntryForEachBit() {
        HopRouters x = Nets.line(2);
        Checks.same("one", x.ask(0, 1, 1), 1);
        Checks.same("the last one", x.ask(1, 0, 128), 2);
        Checks.same("some", x.ask(0, 1, 0b1000101), 3);
        Checks.same("all", x.ask(0, 1, 255), 4);
        Checks.same("bit 0", Nets.packet(x, 0), Nets.due(0, 1, 1, 2, 0, 16));
        Checks.same("bit 7", Nets.packet(x, 1), Nets.due(1, 0, 1, 2, 7, 16));
        Checks.same("by D", Nets.packet(x, 2), Nets.due(0, 1, 1, 2, 0, 16, 2, 2, 16, 2, 6, 16));
        Checks.same("all bits", Nets.packet(x, 3), Nets.due(0, 1, 1, 2, 0, 16, 2, 1, 16, 2, 2, 16,
                2, 3, 16, 2, 4, 16, 2, 5, 16, 2, 6, 16, 2, 7, 16));
        Checks.same("sent", x.count(2), 4);
    }

    private static void aFullAir() {
        HopRouters x = Nets.fullAir();
        Checks.same("in the air", x.count(0), 200);
        Checks.same("none lost", x.count(1), 0);
        Checks.same("full", x.ask(0, 1, 255), 200);
        Checks.same("lost", x.count(1), 1);
        Checks.same("sent", x.count(2), 201);
        Checks.same("the last one is as it was", Nets.packet(x, 199),
                Nets.due(0, 1, 1, 2, 3, 16, 2, 6, 16, 2, 7, 16));
    }

    private static void wrongInputs() {
        HopRouters x = Nets.settledLine(3);
        int[] wrong = {-1, 8, Integer.MIN_VALUE, Integer.MAX_VALUE};
        for (int w : wrong) {
            Checks.noSuch("ask(" + w + ", 0, 1)", x, () -> x.ask(w, 0, 1));
            Checks.noSuch("ask(0, " + w + ", 1)", x, () -> x.ask(0, w, 1));
            Checks.noSuch("ask, no such one twice", x, () -> x.ask(w, w, 0));
        }
        Checks.notAsSaid("ask itself", x, () -> x.ask(1, 1, 1));
        int[] numbers = {0, -1, 256, Integer.MIN_VALUE, Integer.MAX_VALUE};
        for (int n : numbers) {
            Checks.notAsSaid("ask(0, 1, " + n + ")", x, () -> x.ask(0, 1, n));
            Checks.notAsSaid("ask(0, 2, " + n + "), also down", x, () -> x.ask(0, 2, n));
        }
        Checks.notNow("ask over a link that is down", x, () -> x.ask(0, 2, 1));
    }
}
