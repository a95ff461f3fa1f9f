public final class Promise08LoseTest {
    public static void main(String[] args) {
        goesOutOfTheAir();
        wrongInputs();
        Checks.end();
    }

    private static void goesOutOfTheAir() {
        HopRouters x = Nets.line(2);
        for (int i = 1; i <= 5; i++) {
            x.ask(0, 1, i);
        }
        String[] packets = new String[5];
        for (int k = 0; k < 5; k++) {
            packets[k] = Nets.packet(x, k);
        }
        Checks.same("from the middle", x.lose(2), 4);
        Checks.same("from the end", x.lose(3), 3);
        Checks.same("the first", x.lose(0), 2);
        Checks.same("left", Nets.packet(x, 0), packets[1]);
        Checks.same("left", Nets.packet(x, 1), packets[3]);
        Checks.same("does not count as lost", x.count(1), 0);
        Checks.same("nothing came", x.count(2), 5);
        Checks.same("in the air", x.count(0), 2);
        x.lose(0);
        Checks.same("none left", x.lose(0), 0);
        HopRouters full = Nets.fullAir();
        Checks.same("of 200", full.lose(199), 199);
        Checks.same("room again", full.ask(1, 0, 1), 200);
        Checks.same("none lost", full.count(1), 0);
    }

    private static void wrongInputs() {
        HopRouters x = Nets.line(2);
        Checks.noSuch("lose(0) of none", x, () -> x.lose(0));
        x.ask(0, 1, 1);
        int[] wrong = {-1, 1, 200, Integer.MIN_VALUE, Integer.MAX_VALUE};
        for (int w : wrong) {
            Checks.noSuch("lose(" + w + ")", x, () -> x.lose(w));
        }
    }
}
