public final class Promise12PacketTest {
    public static void main(String[] args) {
        whatAPacketHas();
        fromAndToEach();
        changesNothing();
        noSuchPacket();
        noSuchByte();
        Checks.end();
    }

    private static void whatAPacketHas() {
        Checks.says("Of packet k: i = -3 whom it is FROM, -2 TO, NONE how many bytes it has; else byte i.");
        Net x = new Net();
        x.link(6, 2, true);
        x.ask(6, 2, 0b10010);
        x.restart(2);
        Checks.same("NONE", HopRouters.NONE, -1);
        Checks.same("from", x.packet(0, -3), 6);
        Checks.same("to", x.packet(0, -2), 2);
        Checks.same("length", x.packet(0, HopRouters.NONE), 44);
        Checks.same("from", x.packet(1, -3), 2);
        Checks.same("to", x.packet(1, -2), 6);
        Checks.same("length", x.packet(1, HopRouters.NONE), 24);
        int[] due = {1, 2, 0, 0,
            0, 2, 0, 0, 10, 0, 1, 0, 255, 255, 255, 0, 0, 0, 0, 0, 0, 0, 0, 16,
            0, 2, 0, 0, 10, 0, 4, 0, 255, 255, 255, 0, 0, 0, 0, 0, 0, 0, 0, 16};
        for (int i = 0; i < due.length; i++) {
            Checks.same("byte " + i, x.packet(0, i), due[i]);
        }
        x.tick(4, false);
        Checks.same("a response", Look.packet(x, 2), Nets.response(6, 2, 6, 1));
    }

    private static void fromAndToEach() {
        Checks.says("each has whom it is FROM and TO, and its bytes");
        for (int a = 0; a < Nets.ROUTERS; a++) {
            for (int b = 0; b < Nets.ROUTERS; b++) {
                if (a != b) {
                    Net x = new Net();
                    x.link(a, b, true);
                    x.ask(a, b, 1);
                    Checks.same("from", x.packet(0, -3), a);
                    Checks.same("to", x.packet(0, -2), b);
                }
            }
        }
    }

    private static void changesNothing() {
        Checks.says("Of packet k: i = -3 whom it is FROM");
        Net x = Nets.busy();
        String before = Look.state(x);
        for (int i = -3; i < 24; i++) {
            x.packet(0, i);
        }
        Checks.same("state", Look.state(x), before);
    }

    private static void noSuchPacket() {
        Checks.says("IndexOutOfBoundsException: there is no such router, packet");
        Net none = Nets.line(2);
        Net x = Nets.busy();
        int size = x.count(0);
        int[] wrong = {-1, size, size + 1, 199, 200, Integer.MIN_VALUE, Integer.MAX_VALUE};
        for (int i = -4; i <= 0; i++) {
            int at = i;
            Checks.noSuch("packet(0, " + i + ") of none", none, () -> none.packet(0, at));
            for (int w : wrong) {
                Checks.noSuch("packet(" + w + ", " + i + ")", x, () -> x.packet(w, at));
            }
        }
        Checks.same("the first is there", x.packet(0, 1), 2);
        Checks.same("the last is there", x.packet(size - 1, 1), 2);
        Net full = Nets.fullAir();
        Checks.noSuch("packet(200, -3)", full, () -> full.packet(200, -3));
        Checks.same("packet(199, -3)", full.packet(199, -3), 0);
    }

    private static void noSuchByte() {
        Checks.says("IndexOutOfBoundsException: there is no such router, packet, byte");
        for (int number = 1; number <= 255; number = number * 2 + 1) {
            Net x = Nets.line(2);
            x.ask(0, 1, number);
            int length = 4 + 20 * Integer.bitCount(number);
            int[] wrong = {-4, -5, length, length + 1, 164, 165, 200, Integer.MIN_VALUE,
                Integer.MAX_VALUE};
            for (int w : wrong) {
                Checks.noSuch("packet(0, " + w + ")", x, () -> x.packet(0, w));
            }
            Checks.same("the first byte", x.packet(0, 0), 1);
            Checks.same("the last byte", x.packet(0, length - 1), 16);
            x.cut(0, 1);
            Checks.same("the one byte left", x.packet(0, 0), 1);
            Checks.noSuch("the second of one", x, () -> x.packet(0, 1));
            x.cut(0, 0);
            Checks.same("how many", x.packet(0, -1), 0);
            Checks.same("from", x.packet(0, -3), 0);
            Checks.same("to", x.packet(0, -2), 1);
            Checks.noSuch("the first of none", x, () -> x.packet(0, 0));
        }
    }
}
