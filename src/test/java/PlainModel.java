import java.util.ArrayList;
import java.util.List;
import java.util.Set;
import java.util.TreeSet;

/** The document's rules once more, in the plainest way: what HopRouters is compared with. */
final class PlainModel {
    static final class Sending {
        int from;
        int to;
        List<Integer> bytes = new ArrayList<>();
    }

    static final class Way {
        int metric;
        int next;
        int age;
        boolean changed;
        int silent;
    }

    final Set<String> linksUp = new TreeSet<>();
    final Way[][] ways = new Way[8][8];
    final List<Sending> air = new ArrayList<>();
    int time;
    int sent;
    int lost;
    int unsound;

    static void need(boolean there) {
        if (!there) {
            throw new IndexOutOfBoundsException();
        }
    }

    static void right(boolean asSaid) {
        if (!asSaid) {
            throw new IllegalArgumentException();
        }
    }

    static boolean router(int r) {
        return 0 <= r && r <= 7;
    }

    void needPacket(int k) {
        need(0 <= k && k < air.size());
    }

    boolean isUp(int a, int b) {
        return linksUp.contains(Math.min(a, b) + "-" + Math.max(a, b));
    }

    boolean link(int a, int b, boolean up) {
        need(router(a) && router(b));
        right(a != b);
        String name = Math.min(a, b) + "-" + Math.max(a, b);
        return up ? linksUp.add(name) : linksUp.remove(name);
    }

    void gone(Way w) {
        w.metric = 16;
        w.age = 0;
        w.changed = true;
        w.silent = 20;
    }

    int sees(int router, int other) {
        need(router(router) && router(other));
        right(router != other);
        if (isUp(router, other)) {
            throw new IllegalStateException();
        }
        int n = 0;
        for (Way w : ways[router]) {
            if (w != null && w.next == other && w.metric < 16 && w.silent == 0) {
                gone(w);
                n++;
            }
        }
        return n;
    }

    static Sending compose(int from, int to, int command) {
        Sending p = new Sending();
        p.from = from;
        p.to = to;
        p.bytes.addAll(List.of(command, 2, 0, 0));
        return p;
    }

    static void entry(Sending p, int family, int d, int metric) {
        int[] bytes = {0, family, 0, 0, 10, 0, d, 0, 255, 255, 255, 0, 0, 0, 0, 0, 0, 0, 0, metric};
        for (int b : bytes) {
            p.bytes.add(b);
        }
    }

    void launch(Sending p) {
        sent++;
        if (air.size() == 200) {
            lost++;
        } else {
            air.add(p);
        }
    }

    int restart(int router) {
        need(router(router));
        ways[router] = new Way[8];
        for (int n = 0; n < 8; n++) {
            if (isUp(router, n)) {
                Sending p = compose(router, n, 1);
                entry(p, 0, 0, 16);
                launch(p);
            }
        }
        return air.size();
    }

    int ask(int router, int other, int destinations) {
        need(router(router) && router(other));
        right(router != other && 1 <= destinations && destinations <= 255);
        if (!isUp(router, other)) {
            throw new IllegalStateException();
        }
        Sending p = compose(router, other, 1);
        String bits = new StringBuilder(Integer.toBinaryString(destinations)).reverse().toString();
        for (int d = 0; d < bits.length(); d++) {
            if (bits.charAt(d) == '1') {
                entry(p, 2, d, 16);
            }
        }
        launch(p);
        return air.size();
    }

    int tick(int n, boolean all) {
        right(0 <= n && n <= 1000);
        for (int i = 0; i < n; i++) {
            time++;
            for (Way[] table : ways) {
                age(table);
            }
            for (int r = 0; r < 8; r++) {
                turn(r);
            }
            int came = 0;
            while (all && !air.isEmpty() && came < 1000) {
                came++;
                deliver(0);
            }
        }
        return air.size();
    }

    void age(Way[] table) {
        for (int d = 0; d < 8; d++) {
            Way w = table[d];
            if (w == null) {
                continue;
            }
            w.age++;
            w.silent -= w.silent == 0 ? 0 : 1;
            if (w.metric < 16 && w.age == 60) {
                gone(w);
            } else if (w.metric == 16 && w.age == 50) {
                table[d] = null;
            }
        }
    }

    void turn(int r) {
        boolean full = (time + r) % 10 == 0;
        for (int n = 0; n < 8; n++) {
            if (isUp(r, n)) {
                tell(r, n, full, full);
            }
        }
        for (Way w : ways[r]) {
            if (w != null) {
                w.changed = false;
            }
        }
    }

    void tell(int r, int n, boolean unchangedToo, boolean itself) {
        Sending p = compose(r, n, 2);
        if (itself) {
            entry(p, 2, r, 1);
        }
        for (int d = 0; d < 8; d++) {
            Way w = ways[r][d];
            if (w != null && (unchangedToo || w.changed)) {
                int metric = w.next == n || w.metric >= 15 ? 16 : w.metric + 1;
                entry(p, 2, d, metric);
            }
        }
        if (p.bytes.size() > 4) {
            launch(p);
        }
    }

    boolean deliver(int k) {
        needPacket(k);
        Sending p = air.remove(k);
        if (!isUp(p.from, p.to)) {
            lost++;
            return false;
        }
        int n = p.bytes.size();
        if (n < 24 || (n - 4) % 20 != 0 || p.bytes.get(0) < 1 || p.bytes.get(0) > 2
                || !p.bytes.subList(1, 4).equals(List.of(2, 0, 0))) {
            unsound++;
        } else if (p.bytes.get(0) == 2) {
            response(p);
        } else {
            request(p);
        }
        return true;
    }

    /** The entry is as the document's picture of it, with this family, whatever D and metric. */
    static boolean pictured(List<Integer> e, int family) {
        return e.subList(0, 6).equals(List.of(0, family, 0, 0, 10, 0))
                && e.subList(7, 12).equals(List.of(0, 255, 255, 255, 0))
                && e.subList(12, 19).equals(List.of(0, 0, 0, 0, 0, 0, 0));
    }

    static List<List<Integer>> soundEntries(Sending p) {
        List<List<Integer>> sound = new ArrayList<>();
        for (int at = 4; at < p.bytes.size(); at += 20) {
            List<Integer> e = p.bytes.subList(at, at + 20);
            if (pictured(e, 2) && e.get(6) <= 7 && e.get(19) >= 1 && e.get(19) <= 16) {
                sound.add(e);
            }
        }
        return sound;
    }

    void response(Sending p) {
        for (List<Integer> e : soundEntries(p)) {
            int d = e.get(6);
            int m = e.get(19);
            if (d == p.to) {
                continue;
            }
            Way w = ways[p.to][d];
            if (w == null) {
                if (m < 16) {
                    w = new Way();
                    ways[p.to][d] = w;
                    w.metric = m;
                    w.next = p.from;
                    w.changed = true;
                }
            } else if (w.silent > 0) {
                continue;
            } else if (w.next == p.from) {
                if (m < 16) {
                    w.age = 0;
                }
                if (m == 16 && w.metric != 16) {
                    gone(w);
                } else if (m != w.metric) {
                    w.metric = m;
                    w.changed = true;
                }
            } else if (m < w.metric) {
                w.metric = m;
                w.next = p.from;
                w.age = 0;
                w.changed = true;
            }
        }
    }

    void request(Sending p) {
        List<Integer> first = p.bytes.subList(4, 24);
        if (p.bytes.size() == 24 && pictured(first, 0) && first.get(19) == 16) {
            tell(p.to, p.from, true, true);
            return;
        }
        Sending answer = compose(p.to, p.from, 2);
        for (List<Integer> e : soundEntries(p)) {
            int d = e.get(6);
            Way w = ways[p.to][d];
            entry(answer, 2, d, d == p.to ? 1 : w == null ? 16 : w.metric);
        }
        if (answer.bytes.size() > 4) {
            launch(answer);
        }
    }

    int lose(int k) {
        needPacket(k);
        air.remove(k);
        return air.size();
    }

    int twice(int k) {
        needPacket(k);
        Sending p = new Sending();
        p.from = air.get(k).from;
        p.to = air.get(k).to;
        p.bytes.addAll(air.get(k).bytes);
        launch(p);
        return air.size();
    }

    int poke(int k, int i, int v) {
        needPacket(k);
        need(0 <= i && i < air.get(k).bytes.size());
        right(0 <= v && v <= 255);
        return air.get(k).bytes.set(i, v);
    }

    void cut(int k, int n) {
        needPacket(k);
        List<Integer> bytes = air.get(k).bytes;
        right(0 <= n && n <= bytes.size());
        bytes.subList(n, bytes.size()).clear();
    }

    int packet(int k, int i) {
        needPacket(k);
        Sending p = air.get(k);
        need(-3 <= i && i < p.bytes.size());
        return i == -3 ? p.from : i == -2 ? p.to : i == -1 ? p.bytes.size() : p.bytes.get(i);
    }

    int route(int router, int to, int what) {
        need(router(router) && router(to) && 0 <= what && what <= 4);
        Way w = ways[router][to];
        if (w == null) {
            return router == to && what == 0 ? 0 : -1;
        }
        int[] parts = {w.metric, w.next, w.age, w.changed ? 1 : 0, w.silent};
        return parts[what];
    }

    int send(int from, int to) {
        need(router(from) && router(to));
        int at = from;
        for (int hops = 0; hops <= 16; hops++) {
            if (at == to) {
                return hops;
            }
            Way w = ways[at][to];
            if (hops < 16 && (w == null || w.metric == 16)) {
                return -1;
            }
            if (hops < 16 && !isUp(at, w.next)) {
                return -2;
            }
            at = hops < 16 ? w.next : at;
        }
        return -3;
    }

    int count(int what) {
        need(0 <= what && what <= 5);
        int[] counts = {air.size(), lost, sent, time, linksUp.size(), unsound};
        return counts[what];
    }
}
