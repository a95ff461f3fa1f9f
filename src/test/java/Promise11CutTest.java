public final class Promise11CutTest {
    public static void main(String[] args) {
        keepsTheFirstBytes();
        bytesThatAreCutDoNotComeBack();
        wrongInputs();
        Checks.end();
    }

    private static void keepsTheFirstBytes() {
        for (int n = 164; n >= 0; n--) {
            HopRouters x = Nets.line(2);
            x.ask(0, 1, 1);
            x.ask(1, 0, 255);
            int[] bytes = new int[n];
            for (int i = 0; i < n; i++) {
                bytes[i] = x.packet(1, i);
            }
            x.cut(1, n);
            Checks.same("length", x.packet(1, -1), n);
            Checks.same("from", x.packet(1, -3), 1);
            Checks.same("to", x.packet(1, -2), 0);
            for (int i = 0; i < n; i++) {
                Checks.same("byte " + i, x.packet(1, i), bytes[i]);
            }
            Checks.same("the other packet", x.packet(0, -1), 24);
            Checks.same("both are there", x.count(0), 2);
            int end = n;
            Checks.noSuch("byte " + n, x, () -> x.packet(1, end));
        }
    }

    private static void bytesThatAreCutDoNotComeBack() {
        HopRouters x = Nets.line(2);
        x.ask(0, 1, 3);
        x.cut(0, 24);
        Checks.notAsSaid("more again", x, () -> x.cut(0, 25));
        x.cut(0, 24);
        Checks.same("as many as it has", x.packet(0, -1), 24);
        x.deliver(0);
        Checks.same("one entry came", Nets.packet(x, 0), Nets.due(1, 0, 2, 2, 0, 16));
        x.lose(0);
        x.ask(0, 1, 128);
        Checks.same("a new packet is whole", Nets.packet(x, 0), Nets.due(0, 1, 1, 2, 7, 16));
    }

    private static void wrongInputs() {
        HopRouters x = Nets.line(2);
        Checks.noSuch("cut of none", x, () -> x.cut(0, 0));
        x.ask(0, 1, 1);
        int[] wrong = {-1, 1, 200, Integer.MIN_VALUE, Integer.MAX_VALUE};
        for (int w : wrong) {
            Checks.noSuch("cut(" + w + ", 0)", x, () -> x.cut(w, 0));
            Checks.noSuch("cut(" + w + ", -1)", x, () -> x.cut(w, -1));
        }
        int[] lengths = {-1, 25, 44, 164, Integer.MIN_VALUE, Integer.MAX_VALUE};
        for (int n : lengths) {
            Checks.notAsSaid("cut(0, " + n + ")", x, () -> x.cut(0, n));
        }
        x.cut(0, 0);
        Checks.notAsSaid("cut(0, 1) of nothing", x, () -> x.cut(0, 1));
        x.cut(0, 0);
        Checks.same("length", x.packet(0, -1), 0);
    }
}
