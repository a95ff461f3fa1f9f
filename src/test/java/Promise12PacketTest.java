public final class Promise12PacketTest {
    public static void main(String[] args) {
        whatAPacketHas();
        lookingChangesNothing();
        wrongInputs();
        Checks.end();
    }

    private static void whatAPacketHas() {
        HopRouters x = new HopRouters();
        x.link(6, 2, true);
        x.ask(6, 2, 0b10010);
        x.restart(2);
        Checks.same("from", x.packet(0, -3), 6);
        Checks.same("to", x.packet(0, -2), 2);
        Checks.same("length", x.packet(0, HopRouters.NONE), 44);
        Checks.same("from", x.packet(1, -3), 2);
        Checks.same("to", x.packet(1, -2), 6);
        Checks.same("length", x.packet(1, HopRouters.NONE), 24);
        int[] due = {1, 2, 0, 0,
            0, 2, 0, 0, 10, 0, 1, 0, 255, 255, 255, 0, 0, 0, 0, 0, 0, 0, 0, 16,
            0, 2, 0, 0, 10, 0, 4, 0, 255, 255, 255, 0, 0, 0, 0, 0, 0, 0, 0, 16};
        for (int i = 0; i < due.length; i++) {
            Checks.same("byte " + i, x.packet(0, i), due[i]);
        }
        x.tick(4, false);
        Checks.same("a response", Nets.packet(x, 2), Nets.due(6, 2, 2, 2, 6, 1));
    }

    private static void lookingChangesNothing() {
        HopRouters x = Nets.line(2);
        x.ask(0, 1, 9);
        String before = Nets.state(x);
        for (int i = -3; i < 44; i++) {
            x.packet(0, i);
        }
        Checks.same("state", Nets.state(x), before);
    }

    private static void wrongInputs() {
        HopRouters x = Nets.line(2);
        Checks.noSuch("packet of none", x, () -> x.packet(0, -1));
        x.ask(0, 1, 1);
        int[] wrong = {-1, 1, 200, Integer.MIN_VALUE, Integer.MAX_VALUE};
        for (int w : wrong) {
            Checks.noSuch("packet(" + w + ", -3)", x, () -> x.packet(w, -3));
            Checks.noSuch("packet(" + w + ", 0)", x, () -> x.packet(w, 0));
        }
        int[] noByte = {-4, 24, 163, 164, Integer.MIN_VALUE, Integer.MAX_VALUE};
        for (int i : noByte) {
            Checks.noSuch("packet(0, " + i + ")", x, () -> x.packet(0, i));
        }
        x.cut(0, 0);
        Checks.same("length 0", x.packet(0, -1), 0);
        Checks.noSuch("byte 0 of none", x, () -> x.packet(0, 0));
    }
}
