public final class Promise11CutTest {
    public static void main(String[] args) {
        keepsItsFirstBytes();
        whatIsCutDoesNotComeBack();
        noSuchPacket();
        notSoMany();
        Checks.end();
    }

    private static void keepsItsFirstBytes() {
        Checks.says("Packet k keeps its first n bytes.");
        for (int n = 164; n >= 0; n--) {
            Net x = Nets.line(2);
            x.ask(0, 1, 1);
            x.ask(1, 0, 255);
            x.ask(0, 1, 2);
            String[] words = Look.packet(x, 1).split(" ");
            x.cut(1, n);
            StringBuilder due = new StringBuilder(words[0]);
            for (int i = 0; i < n; i++) {
                due.append(' ').append(words[i + 1]);
            }
            Checks.same("length", x.packet(1, -1), n);
            Checks.same("cut(1, " + n + ")", Look.packet(x, 1), due.toString());
            Checks.same("the one before", Look.packet(x, 0), Nets.request(0, 1, 0));
            Checks.same("the one behind", Look.packet(x, 2), Nets.request(0, 1, 1));
            Checks.same("counts", Look.counts(x), "3 0 3 0 1 0");
            int end = n;
            Checks.noSuch("byte " + n, x, () -> x.packet(1, end));
        }
    }

    private static void whatIsCutDoesNotComeBack() {
        Checks.says("Packet k keeps its first n bytes.");
        Net x = Nets.line(2);
        x.ask(0, 1, 3);
        x.cut(0, 24);
        Checks.notAsSaid("one more again", x, () -> x.cut(0, 25));
        Checks.notAsSaid("all again", x, () -> x.cut(0, 44));
        x.cut(0, 24);
        Checks.same("as many as it has", Look.packet(x, 0), Nets.request(0, 1, 0));
        x.deliver(0);
        Checks.same("one entry came", Look.packets(x, 0), Nets.response(1, 0, 0, 16) + "\n");
        x.cut(0, 0);
        x.lose(0);
        x.ask(0, 1, 128);
        Checks.same("a new packet is whole", Look.packet(x, 0), Nets.request(0, 1, 7));
    }

    private static void noSuchPacket() {
        Checks.says("IndexOutOfBoundsException: there is no such router, packet");
        Net none = Nets.line(2);
        Checks.noSuch("the first of none", none, () -> none.cut(0, 0));
        Checks.noSuch("also below 0", none, () -> none.cut(0, -1));
        Net x = Nets.busy();
        int size = x.count(0);
        int[] wrong = {-1, size, size + 1, 199, 200, Integer.MIN_VALUE, Integer.MAX_VALUE};
        for (int w : wrong) {
            Checks.noSuch("cut(" + w + ", 0)", x, () -> x.cut(w, 0));
            Checks.noSuch("also below 0", x, () -> x.cut(w, -1));
            Checks.noSuch("also too many", x, () -> x.cut(w, 165));
        }
        x.cut(size - 1, 1);
        Checks.same("the last is there", x.packet(size - 1, -1), 1);
        x.cut(0, 2);
        Checks.same("the first is there", x.packet(0, -1), 2);
        Net full = Nets.fullAir();
        Checks.noSuch("cut(200, 0)", full, () -> full.cut(200, 0));
        full.cut(199, 5);
        Checks.same("cut(199, 5)", full.packet(199, -1), 5);
    }

    private static void notSoMany() {
        Checks.says("IllegalArgumentException: it has not so many, or n is below 0.");
        int[] numbers = {1, 3, 255};
        for (int number : numbers) {
            Net x = Nets.line(2);
            x.ask(0, 1, number);
            int length = x.packet(0, -1);
            int[] wrong = {-1, length + 1, -2, length + 20, 165, -length, Integer.MIN_VALUE,
                Integer.MAX_VALUE};
            for (int w : wrong) {
                Checks.notAsSaid("cut(0, " + w + ")", x, () -> x.cut(0, w));
            }
            x.cut(0, length);
            Checks.same("all that it has", x.packet(0, -1), length);
            x.cut(0, length - 1);
            Checks.same("one less", x.packet(0, -1), length - 1);
            Checks.notAsSaid("as many as it had", x, () -> x.cut(0, length));
            x.cut(0, 1);
            Checks.same("one", x.packet(0, -1), 1);
            x.cut(0, 0);
            Checks.same("none", x.packet(0, -1), 0);
            Checks.notAsSaid("one of none", x, () -> x.cut(0, 1));
            Checks.notAsSaid("-1 of none", x, () -> x.cut(0, -1));
            x.cut(0, 0);
            Checks.same("none of none", x.packet(0, -1), 0);
        }
    }
}
