public final class Promise10PokeTest {
    public static void main(String[] args) {
        eachByteAlone();
        eachValue();
        wrongInputs();
        Checks.end();
    }

    private static void eachByteAlone() {
        HopRouters x = Nets.line(2);
        x.ask(0, 1, 255);
        int[] bytes = new int[164];
        for (int i = 0; i < 164; i++) {
            bytes[i] = x.packet(0, i);
        }
        for (int i = 0; i < 164; i++) {
            int v = (i * 37 + 129) % 256;
            Checks.same("byte " + i + " was", x.poke(0, i, v), bytes[i]);
            bytes[i] = v;
            for (int j = 0; j < 164; j++) {
                Checks.same("byte " + j + " behind poke of " + i, x.packet(0, j), bytes[j]);
            }
        }
        Checks.same("length", x.packet(0, -1), 164);
        Checks.same("from", x.packet(0, -3), 0);
        Checks.same("to", x.packet(0, -2), 1);
    }

    private static void eachValue() {
        HopRouters x = Nets.line(2);
        x.ask(0, 1, 1);
        x.ask(0, 1, 1);
        int was = 1;
        for (int v = 0; v <= 255; v++) {
            Checks.same("was", x.poke(1, 0, v), was);
            Checks.same("is", x.packet(1, 0), v);
            was = v;
        }
        Checks.same("the other packet", x.packet(0, 0), 1);
    }

    private static void wrongInputs() {
        HopRouters x = Nets.line(2);
        Checks.noSuch("poke of none", x, () -> x.poke(0, 0, 0));
        x.ask(0, 1, 1);
        int[] wrong = {-1, 1, 200, Integer.MIN_VALUE, Integer.MAX_VALUE};
        for (int w : wrong) {
            Checks.noSuch("poke(" + w + ", 0, 0)", x, () -> x.poke(w, 0, 0));
            Checks.noSuch("poke(" + w + ", 0, 256)", x, () -> x.poke(w, 0, 256));
        }
        int[] noByte = {-1, -2, -3, 24, 163, 164, Integer.MIN_VALUE, Integer.MAX_VALUE};
        for (int i : noByte) {
            Checks.noSuch("poke(0, " + i + ", 0)", x, () -> x.poke(0, i, 0));
            Checks.noSuch("poke(0, " + i + ", -1)", x, () -> x.poke(0, i, -1));
        }
        int[] noValue = {-1, 256, Integer.MIN_VALUE, Integer.MAX_VALUE};
        for (int v : noValue) {
            Checks.notAsSaid("poke(0, 0, " + v + ")", x, () -> x.poke(0, 0, v));
            Checks.notAsSaid("poke(0, 23, " + v + ")", x, () -> x.poke(0, 23, v));
        }
        x.cut(0, 10);
        Checks.same("the last byte", x.poke(0, 9, 3), 0);
        Checks.noSuch("a byte that was cut", x, () -> x.poke(0, 10, 3));
    }
}
