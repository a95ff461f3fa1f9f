public final class Promise10PokeTest {
    public static void main(String[] args) {
        eachByteAlone();
        eachValue();
        noSuchPacket();
        noSuchByte();
        theValueIsNotAsSaid();
        Checks.end();
    }

    private static void eachByteAlone() {
        Checks.says("Byte i of packet k becomes v: what it was.");
        Net x = Nets.line(2);
        x.ask(0, 1, 255);
        String[] bytes = Look.packet(x, 0).split(" ");
        for (int i = 0; i < 164; i++) {
            int v = (i * 37 + 129) % 256;
            Checks.same("byte " + i + " was", x.poke(0, i, v), Integer.parseInt(bytes[i + 1]));
            bytes[i + 1] = "" + v;
            Checks.same("behind poke of " + i, Look.packet(x, 0), String.join(" ", bytes));
        }
        Checks.same("length", x.packet(0, -1), 164);
        Checks.same("from", x.packet(0, -3), 0);
        Checks.same("to", x.packet(0, -2), 1);
        Checks.same("nothing else", Look.counts(x), "1 0 1 0 1 0");
    }

    private static void eachValue() {
        Checks.says("Byte i of packet k becomes v: what it was.");
        for (int i = 0; i < 4; i++) {
            Net x = Nets.line(2);
            x.ask(0, 1, 1);
            x.ask(1, 0, 2);
            x.ask(0, 1, 4);
            int was = x.packet(1, 20 + i);
            for (int v = 0; v <= 255; v++) {
                Checks.same("it was", x.poke(1, 20 + i, v), was);
                was = v;
                if (v % 17 == 0) {
                    Checks.same("it is", x.packet(1, 20 + i), v);
                }
            }
            Checks.same("255 again", x.poke(1, 20 + i, 255), 255);
            Checks.same("the packet before", Look.packet(x, 0), Nets.request(0, 1, 0));
            Checks.same("the packet behind", Look.packet(x, 2), Nets.request(0, 1, 2));
        }
    }

    private static void noSuchPacket() {
        Checks.says("IndexOutOfBoundsException: there is no such router, packet, byte");
        Net none = Nets.line(2);
        Checks.noSuch("the first of none", none, () -> none.poke(0, 0, 0));
        Checks.noSuch("also a wrong value", none, () -> none.poke(0, 0, 256));
        Net x = Nets.busy();
        int size = x.count(0);
        int[] wrong = {-1, size, size + 1, 199, 200, Integer.MIN_VALUE, Integer.MAX_VALUE};
        for (int w : wrong) {
            Checks.noSuch("poke(" + w + ", 0, 9)", x, () -> x.poke(w, 0, 9));
            Checks.noSuch("also no such byte", x, () -> x.poke(w, -1, 9));
            Checks.noSuch("also a wrong value", x, () -> x.poke(w, 0, 256));
        }
        Checks.same("the first is there", x.poke(0, 1, 3), 2);
        Checks.same("the last is there", x.poke(size - 1, 1, 3), 2);
        Net full = Nets.fullAir();
        Checks.noSuch("poke(200, 0, 9)", full, () -> full.poke(200, 0, 9));
        Checks.same("poke(199, 0, 9)", full.poke(199, 0, 9), 1);
    }

    private static void noSuchByte() {
        Checks.says("IndexOutOfBoundsException: there is no such router, packet, byte");
        Net x = Nets.busy();
        int length = x.packet(0, -1);
        int[] wrong = {-1, -2, -3, -4, length, length + 1, 163, 164, 165, Integer.MIN_VALUE,
            Integer.MAX_VALUE};
        for (int w : wrong) {
            Checks.noSuch("poke(0, " + w + ", 9)", x, () -> x.poke(0, w, 9));
            Checks.noSuch("also a value below 0", x, () -> x.poke(0, w, -1));
            Checks.noSuch("also a value beyond 255", x, () -> x.poke(0, w, 256));
        }
        Checks.same("the first byte", x.poke(0, 0, 9), 1);
        Checks.same("the last byte", x.poke(0, length - 1, 9), 16);
        x.cut(0, 10);
        Checks.same("the last one left", x.poke(0, 9, 3), 0);
        Checks.noSuch("one that was cut", x, () -> x.poke(0, 10, 3));
        x.cut(0, 0);
        Checks.noSuch("the first of none", x, () -> x.poke(0, 0, 3));
        Net longest = Nets.line(2);
        longest.ask(0, 1, 255);
        Checks.same("the longest one's last", longest.poke(0, 163, 9), 16);
        Checks.noSuch("and beyond it", longest, () -> longest.poke(0, 164, 9));
    }

    private static void theValueIsNotAsSaid() {
        Checks.says("IllegalArgumentException: v is not 0 .. 255.");
        Net x = Nets.busy();
        int length = x.packet(0, -1);
        int[] wrong = {-1, 256, -2, 257, -255, -256, 511, 512, Integer.MIN_VALUE, Integer.MAX_VALUE};
        for (int w : wrong) {
            Checks.notAsSaid("poke(0, 0, " + w + ")", x, () -> x.poke(0, 0, w));
            Checks.notAsSaid("poke of the last byte", x, () -> x.poke(0, length - 1, w));
        }
        Checks.same("0", x.poke(0, 0, 0), 1);
        Checks.same("255", x.poke(0, 0, 255), 0);
        Checks.same("it is 255", x.packet(0, 0), 255);
    }
}
