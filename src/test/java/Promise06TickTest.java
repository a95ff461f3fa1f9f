public final class Promise06TickTest {
    public static void main(String[] args) {
        nTimes();
        howManyInTheAir();
        withoutAllNothingComes();
        withAllEverythingComes();
        theOldestFirst();
        alsoThoseThatAreSentThen();
        asManyAsThereCanBe();
        asManyBehindEachTick();
        nIsNotAsSaid();
        Checks.end();
    }

    private static void nTimes() {
        Checks.says("A TICK, n times");
        Net x = new Net();
        int[] ticks = {0, 1, 2, 0, 10, 999, 1000};
        int time = 0;
        for (int n : ticks) {
            x.tick(n, false);
            time += n;
            Checks.same("time behind " + n, x.count(3), time);
            x.tick(n, true);
            time += n;
            Checks.same("time behind " + n + ", with all", x.count(3), time);
        }
        Net once = Nets.busy();
        once.tick(37, false);
        Net often = Nets.busy();
        for (int i = 0; i < 37; i++) {
            often.tick(1, false);
        }
        Checks.same("37 at once, and one by one", Look.state(once), Look.state(often));
        Net onceAll = Nets.busy();
        onceAll.tick(37, true);
        Net oftenAll = Nets.busy();
        for (int i = 0; i < 37; i++) {
            oftenAll.tick(1, true);
        }
        Checks.same("with all", Look.state(onceAll), Look.state(oftenAll));
        Net none = Nets.busy();
        none.tick(0, false);
        Checks.same("none", Look.state(none), Look.state(Nets.busy()));
    }

    private static void howManyInTheAir() {
        Checks.says("how many are in the air then");
        Net x = Nets.line(2);
        Checks.same("nothing told", x.tick(8, false), 0);
        Checks.same("one told", x.tick(1, false), 1);
        Checks.same("two told", x.tick(1, false), 2);
        Checks.same("no tick", x.tick(0, false), 2);
        Checks.same("ten ticks", x.tick(10, false), 4);
        Checks.same("all come", x.tick(1, true), 0);
    }

    private static void withoutAllNothingComes() {
        Checks.says("with all: behind each one all packets come");
        Net x = Nets.line(2);
        x.restart(0);
        x.tick(1000, false);
        Checks.same("nothing was heard", Look.route(x, 0, 1), Look.NO_ROUTE);
        Checks.same("the oldest is there", Look.packet(x, 0), Nets.requestForAll(0, 1));
    }

    private static void withAllEverythingComes() {
        Checks.says("with all: behind each one all packets come");
        Net none = Nets.line(2);
        none.restart(0);
        Checks.same("without a tick nothing comes", none.tick(0, true), 1);
        Checks.same("one tick", none.tick(1, true), 0);
        Net each = Nets.line(3);
        each.tick(8, false);
        Checks.same("2 has told", each.count(0), 1);
        Checks.same("9, 10, 11", each.tick(3, true), 0);
        Checks.same("0 knows of 2, told by 1 at 10", Look.route(each, 0, 2), "2 1 1 0 0");
        Checks.same("1 knows of 0, told at 10", Look.route(each, 1, 0), "1 0 1 0 0");
        Checks.same("2 knows of 0, told at 11", Look.route(each, 2, 0), "2 1 0 1 0");
        Net down = Nets.line(3);
        down.ask(0, 1, 1);
        down.ask(1, 2, 2);
        down.link(0, 1, false);
        Checks.same("also over a link that is down", down.tick(1, true), 0);
        Checks.same("one is lost, one answered", Look.counts(down), "0 1 3 1 1 0");
        Net spoilt = Nets.line(2);
        spoilt.ask(0, 1, 1);
        spoilt.cut(0, 0);
        Checks.same("also one that is not sound", spoilt.tick(1, true), 0);
        Checks.same("not sound", Look.counts(spoilt), "0 0 1 1 1 1");
    }

    private static void theOldestFirst() {
        Checks.says("all packets come, the oldest first");
        int[][] orders = {{0, 2}, {2, 0}};
        for (int[] order : orders) {
            Net x = Nets.line(3);
            Nets.responseInAir(x, order[0], 1, 7, 5);
            Nets.responseInAir(x, order[1], 1, 7, 5);
            x.tick(1, true);
            Checks.same("the first one holds", x.route(1, 7, 1), order[0]);
        }
        Net told = Nets.line(3);
        told.tick(8, false);
        Nets.loseAll(told);
        Nets.responseInAir(told, 0, 1, 7, 5);
        told.tick(1, true);
        Checks.same("what was in the air comes behind the tick, not before", told.route(2, 7, 0), -1);
        Checks.same("but it comes", told.route(1, 7, 0), 5);
    }

    private static void alsoThoseThatAreSentThen() {
        Checks.says("also those that are sent then");
        Net x = Nets.line(2);
        x.restart(0);
        Checks.same("the request and its response", x.tick(1, true), 0);
        Checks.same("0 has been told", Look.route(x, 0, 1), "1 1 0 1 0");
        Checks.same("sent", x.count(2), 2);
        Net y = Nets.line(3);
        y.tick(8, false);
        Nets.loseAll(y);
        y.tick(1, true);
        Checks.same("what 1 tells in the tick comes", Look.route(y, 0, 1), "1 1 0 1 0");
        Checks.same("0 and 2 tell of it in the next", y.tick(1, false), 2);
    }

    /**
     * No run brings 1000 packets behind one tick: a packet sends one more at most, and only a
     * request does, so that of an air of 200 requests no more than 400 come.
     */
    private static void asManyAsThereCanBe() {
        Checks.says("at most 1000 of them");
        Net x = Nets.withPackets(199);
        Checks.same("199 requests and their responses", x.tick(1, true), 0);
        Checks.same("counts", Look.counts(x), "0 0 398 1 2 0");
        Net full = Nets.fullAir();
        Checks.same("200 requests and their responses", full.tick(1, true), 0);
        Checks.same("counts", Look.counts(full), "0 0 400 1 2 0");
        Net more = Nets.fullAir();
        for (int i = 0; i < 100; i++) {
            more.ask(0, 1, 1);
        }
        more.tick(2, false);
        Checks.same("100 did not get there", more.tick(1, true), 0);
        Checks.same("counts", Look.counts(more), "0 100 500 3 2 0");
    }

    private static void asManyBehindEachTick() {
        Checks.says("behind each one all packets come, .. at most 1000 of them");
        Net mesh = new Net();
        for (int a = 0; a < Nets.ROUTERS; a++) {
            for (int b = a + 1; b < Nets.ROUTERS; b++) {
                mesh.link(a, b, true);
            }
        }
        Checks.same("1000 ticks of eight that all tell one another", mesh.tick(1000, true), 0);
        Checks.same("none is lost", mesh.count(1), 0);
        int sent = mesh.count(2);
        Checks.note(sent >= 5600, "more came than 1000 in all, not " + sent);
        Checks.same("0 heard of 7 at 993", Look.route(mesh, 0, 7), "1 7 7 0 0");
    }

    private static void nIsNotAsSaid() {
        Checks.says("IllegalArgumentException: n is not 0 .. 1000.");
        Net x = Nets.busy();
        int[] wrong = {-1, 1001, -2, 1002, -1000, 2000, (1 << 16) + 1, Integer.MIN_VALUE,
            Integer.MAX_VALUE};
        for (int w : wrong) {
            // A class that takes 1001 would be busy with the largest number for very long.
            if (Checks.allGood()) {
                Checks.notAsSaid("tick(" + w + ", false)", x, () -> x.tick(w, false));
                Checks.notAsSaid("tick(" + w + ", true)", x, () -> x.tick(w, true));
            }
        }
        int time = x.count(3);
        x.tick(0, false);
        Checks.same("0 is as said", x.count(3), time);
        x.tick(1000, false);
        Checks.same("1000 is as said", x.count(3), time + 1000);
        x.tick(1000, true);
        Checks.same("with all too", x.count(3), time + 2000);
    }
}
