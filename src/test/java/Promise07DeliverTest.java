public final class Promise07DeliverTest {
    public static void main(String[] args) {
        takesThePacketOut();
        aLinkThatIsDown();
        soundPackets();
        soundEntries();
        responseWithoutARoute();
        responseFromNext();
        responseFromAnother();
        responseInSilence();
        entriesOneBehindTheOther();
        requestForAll();
        requestForAllMustBeJustSo();
        requestForSome();
        answerInAFullAir();
        wrongInputs();
        Checks.end();
    }

    private static void takesThePacketOut() {
        HopRouters x = Nets.line(2);
        for (int d = 0; d < 4; d++) {
            Nets.responseInAir(x, 0, 1, d + 2, 2);
        }
        String first = Nets.packet(x, 0);
        String last = Nets.packet(x, 3);
        Checks.same("from the middle", x.deliver(1), true);
        Checks.same("left", x.count(0), 3);
        Checks.same("it came", x.route(1, 3, 0), 2);
        Checks.same("the first stays", Nets.packet(x, 0), first);
        Checks.same("the last moves up", Nets.packet(x, 2), last);
        Checks.same("from the end", x.deliver(2), true);
        Checks.same("it came", x.route(1, 5, 0), 2);
        Checks.same("others did not", x.route(1, 4, 0), -1);
    }

    private static void aLinkThatIsDown() {
        HopRouters x = Nets.line(3);
        Nets.responseInAir(x, 0, 1, 7, 3);
        x.twice(0);
        x.cut(1, 3);
        x.link(0, 1, false);
        Checks.same("down", x.deliver(0), false);
        Checks.same("no route", Nets.route(x, 1, 7), Nets.NO_ROUTE);
        Checks.same("lost", x.count(1), 1);
        Checks.same("down and not sound", x.deliver(0), false);
        Checks.same("lost", x.count(1), 2);
        Checks.same("none came that was not sound", x.count(5), 0);
        x.link(0, 1, true);
        Nets.responseInAir(x, 0, 1, 7, 3);
        x.link(0, 1, false);
        x.link(0, 1, true);
        Checks.same("up again", x.deliver(0), true);
        Checks.same("came", x.route(1, 7, 0), 3);
    }

    private static void soundPackets() {
        for (int length = 0; length <= 164; length++) {
            HopRouters x = Nets.line(2);
            x.ask(0, 1, 255);
            x.cut(0, length);
            boolean sound = length >= 24 && length % 20 == 4;
            Checks.same("link up", x.deliver(0), true);
            Checks.same("length " + length + " not sound", x.count(5), sound ? 0 : 1);
            Checks.same("length " + length + " answered", x.count(0), sound ? 1 : 0);
            if (sound) {
                Checks.same("length of the answer", x.packet(0, -1), length);
            }
        }
        for (int i = 0; i < 4; i++) {
            for (int v = 0; v <= 255; v++) {
                HopRouters x = Nets.line(2);
                x.ask(0, 1, 1);
                x.poke(0, i, v);
                x.deliver(0);
                boolean sound = i == 0 ? v == 1 || v == 2 : v == (i == 1 ? 2 : 0);
                Checks.same("byte " + i + " = " + v + " not sound", x.count(5), sound ? 0 : 1);
                boolean answered = sound && !(i == 0 && v == 2);
                Checks.same("byte " + i + " = " + v + " answered", x.count(0), answered ? 1 : 0);
                Checks.same("lost", x.count(1), 0);
            }
        }
    }

    /** All values of all bytes of an entry: in a response (a second entry shows that it is sound). */
    private static void soundEntries() {
        int[] plain = {0, 2, 0, 0, 10, 0, 6, 0, 255, 255, 255, 0, 0, 0, 0, 0, 0, 0, 0, 9};
        for (int i = 0; i < 20; i++) {
            for (int v = 0; v <= 255; v++) {
                HopRouters x = Nets.line(2);
                x.ask(0, 1, 0b11000000);
                x.poke(0, 0, 2);
                x.poke(0, 23, 9);
                x.poke(0, 43, 4);
                x.poke(0, 4 + i, v);
                x.deliver(0);
                int d = i == 6 ? v : 6;
                int metric = i == 19 ? v : 9;
                boolean sound = (i == 6 || i == 19 || v == plain[i])
                        && d <= 7 && metric >= 1 && metric <= 16;
                String what = "entry byte " + i + " = " + v;
                Checks.same(what + ": all is sound", x.count(5), 0);
                if (d <= 7 && d != 1 && d != 7) {
                    Checks.same(what, x.route(1, d, 0), sound && metric < 16 ? metric : -1);
                }
                if (d != 6) {
                    Checks.same(what + ": no 6", x.route(1, 6, 0), -1);
                }
                Checks.same(what + ": the next entry", x.route(1, 7, 0), 4);
            }
        }
        HopRouters x = Nets.line(2);
        Nets.hear(x, 0, 1, 1, 5);
        Checks.same("itself is passed over", Nets.route(x, 1, 1), "0 -1 -1 -1 -1");
    }

    private static void responseWithoutARoute() {
        for (int metric = 1; metric <= 16; metric++) {
            HopRouters x = Nets.line(2);
            Nets.hear(x, 0, 1, 7, metric);
            String due = metric < 16 ? metric + " 0 0 1 0" : Nets.NO_ROUTE;
            Checks.same("told " + metric, Nets.route(x, 1, 7), due);
            Checks.same("nothing is sent", x.count(0), 0);
        }
    }

    /** 1 has a route to 7 over 0, of that metric and three ticks old. */
    private static HopRouters withRoute(int metric) {
        HopRouters x = Nets.line(3);
        Nets.hear(x, 0, 1, 7, metric);
        age(x, 3);
        return x;
    }

    private static void age(HopRouters x, int ticks) {
        x.tick(ticks, false);
        while (x.count(0) > 0) {
            x.lose(0);
        }
    }

    /** The route of withRoute, gone and no more silent. */
    private static HopRouters withGoneRoute() {
        HopRouters x = withRoute(4);
        Nets.hear(x, 0, 1, 7, 16);
        age(x, 20);
        return x;
    }

    private static void responseFromNext() {
        HopRouters same = withRoute(4);
        Checks.same("before", Nets.route(same, 1, 7), "4 0 3 0 0");
        Nets.hear(same, 0, 1, 7, 4);
        Checks.same("the same metric", Nets.route(same, 1, 7), "4 0 0 0 0");
        HopRouters less = withRoute(4);
        Nets.hear(less, 0, 1, 7, 2);
        Checks.same("less", Nets.route(less, 1, 7), "2 0 0 1 0");
        HopRouters more = withRoute(4);
        Nets.hear(more, 0, 1, 7, 15);
        Checks.same("more", Nets.route(more, 1, 7), "15 0 0 1 0");
        HopRouters lost = withRoute(4);
        Nets.hear(lost, 0, 1, 7, 16);
        Checks.same("16", Nets.route(lost, 1, 7), "16 0 0 1 20");
        HopRouters gone = withGoneRoute();
        Checks.same("gone before", Nets.route(gone, 1, 7), "16 0 20 0 0");
        Nets.hear(gone, 0, 1, 7, 16);
        Checks.same("16 again", Nets.route(gone, 1, 7), "16 0 20 0 0");
        Nets.hear(gone, 0, 1, 7, 15);
        Checks.same("back again", Nets.route(gone, 1, 7), "15 0 0 1 0");
    }

    private static void responseFromAnother() {
        HopRouters same = withRoute(4);
        Nets.hear(same, 2, 1, 7, 4);
        Checks.same("the same metric", Nets.route(same, 1, 7), "4 0 3 0 0");
        Nets.hear(same, 2, 1, 7, 5);
        Checks.same("more", Nets.route(same, 1, 7), "4 0 3 0 0");
        Nets.hear(same, 2, 1, 7, 16);
        Checks.same("16", Nets.route(same, 1, 7), "4 0 3 0 0");
        Nets.hear(same, 2, 1, 7, 3);
        Checks.same("less", Nets.route(same, 1, 7), "3 2 0 1 0");
        HopRouters gone = withGoneRoute();
        Nets.hear(gone, 2, 1, 7, 16);
        Checks.same("16 for 16", Nets.route(gone, 1, 7), "16 0 20 0 0");
        Nets.hear(gone, 2, 1, 7, 15);
        Checks.same("15 for 16", Nets.route(gone, 1, 7), "15 2 0 1 0");
    }

    private static void responseInSilence() {
        HopRouters x = withRoute(4);
        Nets.hear(x, 0, 1, 7, 16);
        age(x, 19);
        Checks.same("silent", Nets.route(x, 1, 7), "16 0 19 0 1");
        Nets.hear(x, 0, 1, 7, 1);
        Checks.same("NEXT is not heard", Nets.route(x, 1, 7), "16 0 19 0 1");
        Nets.hear(x, 2, 1, 7, 1);
        Checks.same("nor another", Nets.route(x, 1, 7), "16 0 19 0 1");
        age(x, 1);
        Nets.hear(x, 2, 1, 7, 9);
        Checks.same("heard again", Nets.route(x, 1, 7), "9 2 0 1 0");
    }

    private static void entriesOneBehindTheOther() {
        HopRouters x = Nets.line(2);
        x.ask(0, 1, 0b11100000);
        x.poke(0, 0, 2);
        x.poke(0, 23, 3);
        x.poke(0, 30, 5);
        x.poke(0, 43, 8);
        x.poke(0, 63, 2);
        x.deliver(0);
        Checks.same("the later one holds", Nets.route(x, 1, 5), "8 0 0 1 0");
        Checks.same("no 6", Nets.route(x, 1, 6), Nets.NO_ROUTE);
        Checks.same("the last", Nets.route(x, 1, 7), "2 0 0 1 0");
        HopRouters y = Nets.line(2);
        y.ask(0, 1, 0b1100000);
        y.poke(0, 0, 2);
        y.poke(0, 23, 3);
        y.poke(0, 30, 5);
        y.deliver(0);
        Checks.same("there, then gone", Nets.route(y, 1, 5), "16 0 0 1 20");
    }

    private static void requestForAll() {
        for (int d = 0; d <= 255; d += 5) {
            HopRouters x = Nets.line(3);
            Nets.hear(x, 0, 1, 0, 1);
            Nets.hear(x, 2, 1, 6, 3);
            x.restart(0);
            x.poke(0, 10, d);
            x.deliver(0);
            Checks.same("all, poisoned", Nets.packet(x, 0),
                    Nets.due(1, 0, 2, 2, 1, 1, 2, 0, 16, 2, 6, 4));
            Checks.same("one packet", x.count(0), 1);
            Checks.same("still changed", x.route(1, 6, 3), 1);
        }
        HopRouters x = Nets.line(2);
        x.restart(0);
        x.deliver(0);
        Checks.same("itself alone", Nets.packet(x, 0), Nets.due(1, 0, 2, 2, 1, 1));
    }

    private static void requestForAllMustBeJustSo() {
        int[] plain = {0, 0, 0, 0, 10, 0, 0, 0, 255, 255, 255, 0, 0, 0, 0, 0, 0, 0, 0, 16};
        for (int i = 0; i < 20; i++) {
            for (int v = 0; v <= 255; v++) {
                HopRouters x = Nets.line(2);
                x.restart(0);
                x.poke(0, 4 + i, v);
                x.deliver(0);
                boolean answered = i == 6 || v == plain[i] || i == 1 && v == 2;
                Checks.same("byte " + i + " = " + v, x.count(0), answered ? 1 : 0);
                Checks.same("all is sound", x.count(5), 0);
                if (i == 1 && v == 2) {
                    Checks.same("one", Nets.packet(x, 0), Nets.due(1, 0, 2, 2, 0, 16));
                }
            }
        }
        HopRouters two = Nets.line(2);
        two.ask(0, 1, 6);
        two.poke(0, 5, 0);
        two.deliver(0);
        Checks.same("family 0 among two", Nets.packet(two, 0), Nets.due(1, 0, 2, 2, 2, 16));
        HopRouters none = Nets.line(2);
        none.ask(0, 1, 6);
        none.poke(0, 5, 0);
        none.poke(0, 25, 0);
        none.deliver(0);
        Checks.same("no sound entry: nothing", none.count(0), 0);
        Checks.same("nothing sent", none.count(2), 1);
    }

    private static void requestForSome() {
        HopRouters x = Nets.line(3);
        Nets.hear(x, 0, 1, 0, 1);
        Nets.hear(x, 2, 1, 6, 3);
        Nets.hear(x, 2, 1, 7, 3);
        Nets.hear(x, 2, 1, 7, 16);
        x.ask(0, 1, 0b11100011);
        x.deliver(0);
        Checks.same("as its table has them", Nets.packet(x, 0),
                Nets.due(1, 0, 2, 2, 0, 1, 2, 1, 1, 2, 5, 16, 2, 6, 3, 2, 7, 16));
        x.lose(0);
        x.ask(2, 1, 0b11000111);
        x.poke(0, 10, 6);
        x.poke(0, 23, 1);
        x.poke(0, 43, 17);
        x.poke(0, 70, 8);
        x.deliver(0);
        Checks.same("sound ones, in their order", Nets.packet(x, 0),
                Nets.due(1, 2, 2, 2, 6, 3, 2, 2, 16, 2, 7, 16));
    }

    private static void answerInAFullAir() {
        HopRouters x = Nets.fullAir();
        Checks.same("delivered", x.deliver(5), true);
        Checks.same("the answer has its room", x.count(0), 200);
        Checks.same("none lost", x.count(1), 0);
        Checks.same("the answer is the last", Nets.packet(x, 199),
                Nets.due(1, 0, 2, 2, 1, 1, 2, 2, 16));
    }

    private static void wrongInputs() {
        HopRouters x = Nets.line(2);
        Checks.noSuch("deliver(0) of none", x, () -> x.deliver(0));
        x.ask(0, 1, 1);
        x.ask(1, 0, 1);
        int[] wrong = {-1, 2, 199, 200, Integer.MIN_VALUE, Integer.MAX_VALUE};
        for (int w : wrong) {
            Checks.noSuch("deliver(" + w + ")", x, () -> x.deliver(w));
        }
        HopRouters full = Nets.fullAir();
        Checks.noSuch("deliver(200)", full, () -> full.deliver(200));
    }
}
