import java.util.ArrayList;
import java.util.List;

/**
 * A HopRouters that remembers its calls: a twin of it can be looked at in its place. It stops a
 * test that would use an object for more calls than the document promises anything for.
 */
final class Net {
    static final int MOST_CALLS = 512;

    private interface Call {
        int on(HopRouters x);
    }

    private final HopRouters real = new HopRouters();
    private final List<Call> calls = new ArrayList<>();

    /** Another one, of which the same calls have been made. */
    Net twin() {
        Net twin = new Net();
        for (Call call : calls) {
            try {
                twin.make(call);
            } catch (RuntimeException e) {
                continue; // A call that was refused here is a part of the story as well.
            }
        }
        return twin;
    }

    int callsLeft() {
        return MOST_CALLS - calls.size();
    }

    private int make(Call call) {
        if (callsLeft() == 0) {
            throw new AssertionError("this test uses an object for more than 512 calls");
        }
        calls.add(call);
        return call.on(real);
    }

    boolean link(int a, int b, boolean up) {
        return make(x -> x.link(a, b, up) ? 1 : 0) == 1;
    }

    int sees(int router, int other) {
        return make(x -> x.sees(router, other));
    }

    int restart(int router) {
        return make(x -> x.restart(router));
    }

    int ask(int router, int other, int destinations) {
        return make(x -> x.ask(router, other, destinations));
    }

    int tick(int n, boolean all) {
        return make(x -> x.tick(n, all));
    }

    boolean deliver(int k) {
        return make(x -> x.deliver(k) ? 1 : 0) == 1;
    }

    int lose(int k) {
        return make(x -> x.lose(k));
    }

    int twice(int k) {
        return make(x -> x.twice(k));
    }

    int poke(int k, int i, int v) {
        return make(x -> x.poke(k, i, v));
    }

    void cut(int k, int n) {
        make(x -> {
            x.cut(k, n);
            return 0;
        });
    }

    int packet(int k, int i) {
        return make(x -> x.packet(k, i));
    }

    int route(int router, int to, int what) {
        return make(x -> x.route(router, to, what));
    }

    int send(int from, int to) {
        return make(x -> x.send(from, to));
    }

    int count(int what) {
        return make(x -> x.count(what));
    }
}
