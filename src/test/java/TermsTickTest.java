/** What one tick does: the clocks of the routes first, then who tells what to whom. */
public final class TermsTickTest {
    public static void main(String[] args) {
        oneOlder();
        silenceCountsDown();
        age60();
        age50();
        agingComesBeforeTelling();
        aMultipleOf10();
        byNumber();
        allRoutesAndItself();
        changedOnes();
        changedOnesInTurn();
        nothingIsChangedThen();
        eachRouteOfEachRouter();
        Checks.end();
    }

    /** 1 has a route to 7 over 0, and hears no more: all links are down. */
    private static Net alone(int metric) {
        Net x = Nets.line(2);
        Nets.hear(x, 0, 1, 7, metric);
        x.link(0, 1, false);
        return x;
    }

    private static void oneOlder() {
        Checks.says("each route's age is 1 more");
        Net x = alone(3);
        for (int age = 0; age <= 59; age++) {
            Checks.same("age", x.route(1, 7, 2), age);
            x.tick(1, false);
        }
        Net heard = Nets.line(2);
        Nets.hear(heard, 0, 1, 7, 3);
        for (int i = 1; i <= 20; i++) {
            heard.tick(7, false);
            Checks.same("age", heard.route(1, 7, 2), 7);
            Nets.loseAll(heard);
            Nets.hear(heard, 0, 1, 7, 3);
            Checks.same("heard of", heard.route(1, 7, 2), 0);
        }
    }

    private static void silenceCountsDown() {
        Checks.says("SILENT (if it is not 0) 1 less");
        Net x = alone(3);
        x.tick(2, false);
        Checks.same("it was never silent", x.route(1, 7, 4), 0);
        x.sees(1, 0);
        Checks.same("silent for 20", x.route(1, 7, 4), 20);
        for (int i = 1; i <= 25; i++) {
            x.tick(1, false);
            Checks.same("silent behind " + i, x.route(1, 7, 4), Math.max(20 - i, 0));
        }
    }

    private static void age60() {
        Checks.says("a route with a metric below 16 and age 60 is GONE");
        for (int metric = 1; metric <= 15; metric++) {
            Net x = alone(metric);
            int[] ages = {48, 49, 50, 51, 58, 59};
            int time = 0;
            for (int age : ages) {
                x.tick(age - time, false);
                time = age;
                Checks.same("age " + age, Look.route(x, 1, 7), metric + " 0 " + age + " 0 0");
            }
            x.tick(1, false);
            Checks.same("age 60", Look.route(x, 1, 7), "16 0 0 0 20");
            x.tick(1, false);
            Checks.same("one more", Look.route(x, 1, 7), "16 0 1 0 19");
        }
        Net kept = Nets.line(2);
        Nets.hear(kept, 0, 1, 7, 3);
        kept.tick(59, false);
        Nets.loseAll(kept);
        Nets.hear(kept, 0, 1, 7, 3);
        kept.tick(1, false);
        Checks.same("heard of at 59", Look.route(kept, 1, 7), "3 0 1 0 0");
        kept.tick(58, false);
        Checks.same("59 ticks behind that", Look.route(kept, 1, 7), "3 0 59 0 0");
        kept.tick(1, false);
        Checks.same("60 ticks behind that", Look.route(kept, 1, 7), "16 0 0 0 20");
    }

    private static void age50() {
        Checks.says("one with metric 16 and age 50 goes");
        Net seen = alone(3);
        seen.tick(5, false);
        seen.sees(1, 0);
        seen.tick(49, false);
        Checks.same("age 49", Look.route(seen, 1, 7), "16 0 49 0 0");
        seen.tick(1, false);
        Checks.same("age 50", Look.route(seen, 1, 7), Look.NO_ROUTE);
        seen.tick(1, false);
        Checks.same("one more", Look.route(seen, 1, 7), Look.NO_ROUTE);
        seen.tick(100, false);
        Checks.same("much more", Look.route(seen, 1, 7), Look.NO_ROUTE);
        Net old = alone(3);
        old.tick(109, false);
        Checks.same("60 and 49", Look.route(old, 1, 7), "16 0 49 0 0");
        old.tick(1, false);
        Checks.same("60 and 50", Look.route(old, 1, 7), Look.NO_ROUTE);
        Net late = Nets.line(2);
        Nets.hear(late, 0, 1, 7, 3);
        Nets.hear(late, 0, 1, 7, 16);
        late.tick(49, false);
        Nets.loseAll(late);
        Nets.hear(late, 0, 1, 7, 16);
        Checks.same("16 makes it no younger", Look.route(late, 1, 7), "16 0 49 0 0");
        Net back = late.twin();
        late.tick(1, false);
        Checks.same("it goes", Look.route(late, 1, 7), Look.NO_ROUTE);
        Nets.hear(back, 0, 1, 7, 15);
        back.tick(1, false);
        Checks.same("15 saves it", Look.route(back, 1, 7), "15 0 1 0 0");
    }

    private static void agingComesBeforeTelling() {
        Checks.says("Time is 1 more; then, for each router by number: each route's age is 1 more, ..; "
                + "Then, for each router by number: ..");
        Net gone = alone(3);
        gone.tick(59, false);
        gone.link(0, 1, true);
        gone.tick(1, false);
        Checks.same("gone, and told at once", Look.packets(gone, 0),
                Nets.response(0, 1, 0, 1) + "\n" + Nets.response(1, 0, 7, 16) + "\n");
        Net left = alone(3);
        left.sees(1, 0);
        left.tick(48, false);
        left.link(0, 1, true);
        left.tick(1, false);
        Checks.same("metric 16 of age 49 is told in its turn", Look.packets(left, 0),
                Nets.response(1, 0, 1, 1, 7, 16) + "\n");
        Net went = alone(3);
        went.tick(9, false);
        went.sees(1, 0);
        went.tick(49, false);
        went.link(0, 1, true);
        went.tick(1, false);
        Checks.same("one that went is not, at 59", Look.packets(went, 0),
                Nets.response(1, 0, 1, 1) + "\n");
    }

    private static void aMultipleOf10() {
        Checks.says("if time and its number together are a multiple of 10, it TELLS each neighbour, by number, "
                + "all routes, and itself");
        for (int r = 0; r < Nets.ROUTERS; r++) {
            Net x = new Net();
            int other = (r + 4) % Nets.ROUTERS;
            x.link(r, other, true);
            for (int time = 1; time <= 41; time++) {
                x.tick(1, false);
                boolean told = false;
                for (int n = x.count(0); n > 0; n--) {
                    told |= x.packet(0, -3) == r;
                    x.lose(0);
                }
                Checks.same("router " + r + " at " + time, told, (time + r) % 10 == 0);
            }
        }
    }

    private static void byNumber() {
        Checks.says("Then, for each router by number: .. it TELLS each neighbour, by number");
        Net x = Nets.line(8);
        StringBuilder told = new StringBuilder();
        for (int time = 1; time <= 20; time++) {
            int n = x.tick(1, false);
            for (int k = 0; k < n; k++) {
                told.append(time).append(' ').append(x.packet(0, -3)).append('>');
                told.append(x.packet(0, -2)).append(' ');
                x.lose(0);
            }
        }
        Checks.same("who tells whom and when", told.toString(),
                "3 7>6 4 6>5 4 6>7 5 5>4 5 5>6 6 4>3 6 4>5 7 3>2 7 3>4 8 2>1 8 2>3 "
                + "9 1>0 9 1>2 10 0>1 13 7>6 14 6>5 14 6>7 15 5>4 15 5>6 16 4>3 16 4>5 "
                + "17 3>2 17 3>4 18 2>1 18 2>3 19 1>0 19 1>2 20 0>1 ");
        Net changes = Nets.line(4);
        for (int r = 3; r > 0; r--) {
            Nets.hear(changes, r - 1, r, 7, 2);
        }
        Nets.hear(changes, 1, 0, 6, 3);
        changes.tick(1, false);
        Checks.same("changes of all", Look.packets(changes, 0), Nets.response(0, 1, 6, 16) + "\n"
                + Nets.response(1, 0, 7, 16) + "\n" + Nets.response(1, 2, 7, 3) + "\n"
                + Nets.response(2, 1, 7, 16) + "\n" + Nets.response(2, 3, 7, 3) + "\n"
                + Nets.response(3, 2, 7, 16) + "\n");
    }

    private static void allRoutesAndItself() {
        Checks.says("it TELLS each neighbour, by number, all routes, and itself");
        Net x = new Net();
        x.link(3, 5, true);
        x.link(3, 1, true);
        Nets.hear(x, 1, 3, 0, 4);
        Nets.hear(x, 1, 3, 7, 2);
        Nets.hear(x, 5, 3, 2, 15);
        Nets.hear(x, 5, 3, 6, 3);
        Nets.hear(x, 5, 3, 6, 16);
        x.tick(6, false);
        Nets.loseAll(x);
        Checks.same("at 7", x.tick(1, false), 2);
        Checks.same("to both", Look.packets(x, 0),
                Nets.response(3, 1, 3, 1, 0, 16, 2, 16, 6, 16, 7, 16) + "\n"
                + Nets.response(3, 5, 3, 1, 0, 5, 2, 16, 6, 16, 7, 3) + "\n");
    }

    private static void changedOnes() {
        Checks.says("else, if some are CHANGED, those, without itself");
        Net x = Nets.line(3);
        Checks.same("none is changed", x.tick(1, false), 0);
        Nets.hear(x, 0, 1, 4, 4);
        Checks.same("nothing before a tick", x.count(0), 0);
        Checks.same("one is changed", x.tick(1, false), 2);
        Checks.same("it is told", Look.packets(x, 0),
                Nets.response(1, 0, 4, 16) + "\n" + Nets.response(1, 2, 4, 5) + "\n");
        Nets.loseAll(x);
        Nets.hear(x, 2, 1, 3, 1);
        Nets.hear(x, 0, 1, 5, 2);
        x.tick(1, false);
        Checks.same("two others are, the first is not", Look.packets(x, 0),
                Nets.response(1, 0, 3, 2, 5, 16) + "\n" + Nets.response(1, 2, 3, 16, 5, 3) + "\n");
        Nets.loseAll(x);
        Nets.hear(x, 0, 1, 4, 4);
        Checks.same("the same again is no change", x.tick(1, false), 0);
    }

    private static void changedOnesInTurn() {
        Checks.says("all routes, and itself; else, if some are CHANGED, those");
        Net x = Nets.line(3);
        x.tick(8, false);
        Nets.loseAll(x);
        Nets.hear(x, 0, 1, 5, 4);
        x.tick(1, false);
        Checks.same("told once, with itself", Look.packets(x, 0),
                Nets.response(1, 0, 1, 1, 5, 16) + "\n" + Nets.response(1, 2, 1, 1, 5, 5) + "\n");
        Checks.same("no change then", x.route(1, 5, 3), 0);
        Nets.loseAll(x);
        x.link(0, 1, false);
        Checks.same("nor told again", x.tick(1, false), 0);
    }

    private static void nothingIsChangedThen() {
        Checks.says("Nothing is CHANGED in it then.");
        Net x = Nets.line(3);
        Nets.hear(x, 0, 1, 0, 1);
        Nets.hear(x, 0, 1, 5, 4);
        Nets.hear(x, 0, 1, 7, 4);
        Checks.same("changed", x.route(1, 5, 3), 1);
        x.tick(1, false);
        Checks.same("to 0", Look.route(x, 1, 0), "1 0 1 0 0");
        Checks.same("to 5", Look.route(x, 1, 5), "4 0 1 0 0");
        Checks.same("to 7", Look.route(x, 1, 7), "4 0 1 0 0");
        Checks.same("told once", x.tick(1, false), 2);
        Net nobody = alone(4);
        Checks.same("without a neighbour", nobody.tick(1, false), 0);
        Checks.same("no change either", Look.route(nobody, 1, 7), "4 0 1 0 0");
        nobody.link(0, 1, true);
        Checks.same("a link comes too late", nobody.tick(1, false), 0);
    }

    private static void eachRouteOfEachRouter() {
        Checks.says("for each router by number: each route's age is 1 more, SILENT (if it is not 0) 1 less");
        for (int router = 0; router < Nets.ROUTERS; router++) {
            int other = (router + 1) % Nets.ROUTERS;
            for (int d = 0; d < Nets.ROUTERS; d++) {
                if (d != router) {
                    Net x = new Net();
                    x.link(router, other, true);
                    Nets.hear(x, other, router, d, 2);
                    Checks.same("told", x.tick(1, false), 1);
                    Checks.same("the change", Look.packet(x, 0), Nets.response(router, other, d, 16));
                    Checks.same("the route", Look.route(x, router, d), "2 " + other + " 1 0 0");
                    x.lose(0);
                    Nets.hear(x, other, router, d, 16);
                    Checks.same("told again", x.tick(1, false), 1);
                    Checks.same("silent", Look.route(x, router, d), "16 " + other + " 1 0 19");
                }
            }
        }
    }
}
