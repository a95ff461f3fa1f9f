/** What a response changes in the table of the router that it comes to. */
public final class TermsResponseTest {
    public static void main(String[] args) {
        itselfIsPassedOver();
        noRoute();
        fromNext();
        fromNextWithARouteOf16();
        fromAnother();
        fromAnotherForARouteOf16();
        silent();
        gone();
        oneBehindTheOther();
        Checks.end();
    }

    private static void itselfIsPassedOver() {
        Checks.says("D the router itself: passed over.");
        for (int r = 0; r < Nets.ROUTERS; r++) {
            int from = (r + 1) % Nets.ROUTERS;
            Net x = new Net();
            x.link(r, from, true);
            Nets.hear(x, from, r, r, 5);
            Checks.same("router " + r, Look.route(x, r, r), Look.TO_ITSELF);
            Checks.same("nothing to tell", x.tick(1, false), 0);
            Nets.hear(x, from, r, from, 5);
            Checks.same("the one that it is from is not passed over", x.route(r, from, 0), 5);
        }
    }

    private static void noRoute() {
        Checks.says("no route: if the metric is below 16, there is one: that metric, NEXT is FROM, age 0, "
                + "CHANGED, not SILENT.");
        for (int metric = 1; metric <= 16; metric++) {
            Net x = Nets.line(2);
            x.tick(2, false);
            Nets.hear(x, 0, 1, 7, metric);
            Checks.same("told " + metric, Look.route(x, 1, 7),
                    metric < 16 ? metric + " 0 0 1 0" : Look.NO_ROUTE);
            Checks.same("nothing is sent", x.count(0), 0);
            Checks.same("a change to tell", x.tick(1, false), metric < 16 ? 1 : 0);
        }
        Net again = withGoneRoute(4);
        again.tick(30, false);
        Checks.same("it went", Look.route(again, 1, 7), Look.NO_ROUTE);
        Nets.loseAll(again);
        Nets.hear(again, 2, 1, 7, 16);
        Checks.same("16 makes none", Look.route(again, 1, 7), Look.NO_ROUTE);
        Nets.hear(again, 2, 1, 7, 15);
        Checks.same("15 makes one", Look.route(again, 1, 7), "15 2 0 1 0");
    }

    /** 1 has a route to 7 over 0, of that metric, three ticks old and told. */
    private static Net withRoute(int metric) {
        Net x = Nets.line(3);
        Nets.hear(x, 0, 1, 7, metric);
        age(x, 3);
        return x;
    }

    private static void age(Net x, int ticks) {
        x.tick(ticks, false);
        Nets.loseAll(x);
    }

    /** The route of withRoute, gone and no more silent. */
    private static Net withGoneRoute(int metric) {
        Net x = withRoute(metric);
        Nets.hear(x, 0, 1, 7, 16);
        age(x, 20);
        return x;
    }

    private static void fromNext() {
        Checks.says("a route, FROM is its NEXT, and it is not SILENT: a metric below 16: age 0; another one "
                + "than it had (16 also): it has that, CHANGED; if that is 16 (and it was not): it is GONE.");
        for (int had = 1; had <= 15; had++) {
            for (int told = 1; told <= 16; told++) {
                Net x = withRoute(had);
                Checks.same("before", Look.route(x, 1, 7), had + " 0 3 0 0");
                Nets.hear(x, 0, 1, 7, told);
                String due = told == 16 ? "16 0 0 1 20" : told + " 0 0 " + (told == had ? 0 : 1) + " 0";
                Checks.same("had " + had + ", told " + told, Look.route(x, 1, 7), due);
            }
        }
        Net fresh = Nets.line(3);
        Nets.hear(fresh, 0, 1, 7, 4);
        Nets.hear(fresh, 0, 1, 7, 4);
        Checks.same("still changed", Look.route(fresh, 1, 7), "4 0 0 1 0");
    }

    private static void fromNextWithARouteOf16() {
        Checks.says("a metric below 16: age 0; another one than it had (16 also): it has that, CHANGED");
        for (int told = 1; told <= 16; told++) {
            Net x = withGoneRoute(4);
            Checks.same("before", Look.route(x, 1, 7), "16 0 20 0 0");
            Nets.hear(x, 0, 1, 7, told);
            String due = told == 16 ? "16 0 20 0 0" : told + " 0 0 1 0";
            Checks.same("had 16, told " + told, Look.route(x, 1, 7), due);
        }
    }

    private static void fromAnother() {
        Checks.says("a route with another NEXT, not SILENT, the metric below its: it has that, NEXT is FROM, "
                + "age 0, CHANGED.");
        for (int had = 1; had <= 15; had++) {
            for (int told = 1; told <= 16; told++) {
                Net x = withRoute(had);
                Nets.hear(x, 2, 1, 7, told);
                String due = told < had ? told + " 2 0 1 0" : had + " 0 3 0 0";
                Checks.same("had " + had + ", told " + told, Look.route(x, 1, 7), due);
            }
        }
    }

    private static void fromAnotherForARouteOf16() {
        Checks.says("a route with another NEXT, not SILENT, the metric below its");
        for (int told = 1; told <= 16; told++) {
            Net x = withGoneRoute(4);
            Nets.hear(x, 2, 1, 7, told);
            String due = told < 16 ? told + " 2 0 1 0" : "16 0 20 0 0";
            Checks.same("had 16, told " + told, Look.route(x, 1, 7), due);
        }
    }

    private static void silent() {
        Checks.says("SILENT, or anything else: nothing.");
        for (int ticks = 0; ticks <= 21; ticks++) {
            for (int from = 0; from <= 2; from += 2) {
                Net x = withRoute(4);
                Nets.hear(x, 0, 1, 7, 16);
                age(x, ticks);
                int left = Math.max(20 - ticks, 0);
                String before = "16 0 " + ticks + (ticks == 0 ? " 1 " : " 0 ") + left;
                Checks.same("before", Look.route(x, 1, 7), before);
                Nets.hear(x, from, 1, 7, 16);
                Checks.same("told 16 by " + from, Look.route(x, 1, 7), before);
                Nets.hear(x, from, 1, 7, 1);
                Checks.same("silent for " + left + ", told 1 by " + from, Look.route(x, 1, 7),
                        left > 0 ? before : "1 " + from + " 0 1 0");
            }
        }
        Net others = withRoute(4);
        Nets.hear(others, 0, 1, 6, 4);
        Nets.hear(others, 0, 1, 7, 16);
        Nets.hear(others, 2, 1, 6, 3);
        Checks.same("another route is not silent", Look.route(others, 1, 6), "3 2 0 1 0");
    }

    private static void gone() {
        Checks.says("A route that is GONE has metric 16, age 0, is CHANGED and SILENT for 20.");
        Net told = withRoute(4);
        Nets.hear(told, 0, 1, 7, 16);
        Checks.same("told so by NEXT", Look.route(told, 1, 7), "16 0 0 1 20");
        Net seen = withRoute(4);
        seen.link(1, 0, false);
        seen.sees(1, 0);
        Checks.same("seen", Look.route(seen, 1, 7), "16 0 0 1 20");
        Net old = withRoute(4);
        old.tick(56, false);
        Checks.same("nearly too old", Look.route(old, 1, 7), "4 0 59 0 0");
        old.tick(1, false);
        Checks.same("too old (and told)", Look.route(old, 1, 7), "16 0 0 0 20");
    }

    private static void oneBehindTheOther() {
        Checks.says("RESPONSE: its entries, one behind the other");
        Net x = Nets.line(2);
        x.ask(0, 1, 0b11100000);
        x.poke(0, 0, 2);
        x.poke(0, 23, 3);
        x.poke(0, 30, 5);
        x.poke(0, 43, 8);
        x.poke(0, 63, 2);
        x.deliver(0);
        Checks.same("the later one holds", Look.route(x, 1, 5), "8 0 0 1 0");
        Checks.same("no 6", Look.route(x, 1, 6), Look.NO_ROUTE);
        Checks.same("the last", Look.route(x, 1, 7), "2 0 0 1 0");
        Net y = Nets.line(2);
        y.ask(0, 1, 0b11100000);
        y.poke(0, 0, 2);
        y.poke(0, 23, 3);
        y.poke(0, 30, 5);
        y.poke(0, 50, 5);
        y.poke(0, 63, 4);
        y.deliver(0);
        Checks.same("there, gone, and silent then", Look.route(y, 1, 5), "16 0 0 1 20");
    }
}
