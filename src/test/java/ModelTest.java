import java.util.Random;

/**
 * Random runs of 512 calls, from fixed seeds: every answer is compared with the plain model's. The
 * last calls of a run only look, at tables and packets, so that nothing that went wrong stays hidden.
 */
public final class ModelTest {
    private static final int RUNS = 2500;
    private static final int LEAST_LOOKS = 100;

    private interface Answer {
        long get();
    }

    private final Random random;
    private final Net x = new Net();
    private final PlainModel model = new PlainModel();
    private final StringBuilder story = new StringBuilder();
    private boolean good = true;

    private ModelTest(int seed) {
        random = new Random(seed);
    }

    public static void main(String[] args) {
        for (int seed = 0; seed < RUNS; seed++) {
            ModelTest run = new ModelTest(seed);
            run.go();
            Checks.note(run.good, "run " + seed + ":\n" + run.story);
        }
        Checks.end();
    }

    private void go() {
        int links = random.nextInt(20);
        boolean calm = random.nextBoolean();
        int steps = 50 + random.nextInt(Net.MOST_CALLS - 50 - LEAST_LOOKS);
        for (int i = 0; i < steps && good; i++) {
            if (i < links) {
                link(number(8), number(8), true);
            } else {
                step(calm ? random.nextInt(120) : random.nextInt(100));
            }
        }
        for (int what = 0; what <= 5 && good; what++) {
            count(what);
        }
        while (x.callsLeft() > 0 && good) {
            look();
        }
    }

    private static long outcome(Answer call) {
        try {
            return call.get();
        } catch (IndexOutOfBoundsException e) {
            return e.getClass() == IndexOutOfBoundsException.class ? 1000001 : 1000000;
        } catch (IllegalArgumentException e) {
            return 1000002;
        } catch (IllegalStateException e) {
            return 1000003;
        }
    }

    private void compare(String call, Answer got, Answer due) {
        long g = outcome(got);
        long d = outcome(due);
        story.append(call).append(" -> ").append(g).append('\n');
        if (g != d) {
            good = false;
            story.append("due is ").append(d).append('\n');
        }
    }

    /** Mostly 0 .. n-1, now and then a number beside them. */
    private int number(int n) {
        if (random.nextInt(60) == 0) {
            int[] odd = {-1, n, n + 1, Integer.MIN_VALUE, Integer.MAX_VALUE};
            return odd[random.nextInt(odd.length)];
        }
        return n <= 0 ? 0 : random.nextInt(n);
    }

    private int someByte(int k) {
        int n = k >= 0 && k < model.air.size() ? model.air.get(k).bytes.size() : 4;
        return number(n);
    }

    /** Wrong ones are not so large that a class which takes them would be busy for long. */
    private int ticks(int n) {
        int[] odd = {-1, 1001, Integer.MIN_VALUE};
        return random.nextInt(60) == 0 ? odd[random.nextInt(odd.length)] : random.nextInt(n);
    }

    private void step(int dice) {
        int k = number(model.air.size());
        if (dice < 6) {
            link(number(8), number(8), random.nextInt(3) > 0);
        } else if (dice < 12) {
            sees(number(8), number(8));
        } else if (dice < 16) {
            int r = number(8);
            compare("restart " + r, () -> x.restart(r), () -> model.restart(r));
        } else if (dice < 28) {
            ask(number(8), number(8), random.nextBoolean() ? 1 + number(255) : 1 << number(8));
        } else if (dice < 36) {
            tick(ticks(random.nextInt(10) == 0 ? 100 : 6), random.nextInt(4) == 0);
        } else if (dice < 55) {
            compare("deliver " + k, () -> x.deliver(k) ? 1 : 0, () -> model.deliver(k) ? 1 : 0);
        } else if (dice < 57) {
            compare("lose " + k, () -> x.lose(k), () -> model.lose(k));
        } else if (dice < 61) {
            compare("twice " + k, () -> x.twice(k), () -> model.twice(k));
        } else if (dice < 75) {
            poke(k);
        } else if (dice < 78) {
            cut(k, random.nextBoolean() ? someByte(k) : 4 + 20 * number(8));
        } else if (dice < 85) {
            packet(k, someByte(k) - (random.nextInt(4) == 0 ? 4 : 0));
        } else if (dice < 92) {
            route(number(8), number(8), number(5));
        } else if (dice < 97) {
            int a = number(8);
            int b = number(8);
            compare("send " + a + " " + b, () -> x.send(a, b), () -> model.send(a, b));
        } else if (dice < 100) {
            count(number(6));
        } else {
            tick(ticks(40), true);
        }
    }

    private void link(int a, int b, boolean up) {
        compare("link " + a + " " + b + " " + up,
                () -> x.link(a, b, up) ? 1 : 0, () -> model.link(a, b, up) ? 1 : 0);
    }

    private void sees(int a, int b) {
        compare("sees " + a + " " + b, () -> x.sees(a, b), () -> model.sees(a, b));
    }

    private void ask(int a, int b, int bits) {
        compare("ask " + a + " " + b + " " + bits,
                () -> x.ask(a, b, bits), () -> model.ask(a, b, bits));
    }

    private void tick(int n, boolean all) {
        compare("tick " + n + " " + all, () -> x.tick(n, all), () -> model.tick(n, all));
    }

    /** A command, D or metric that may still be sound, more often than just any byte. */
    private void poke(int k) {
        int entry = random.nextInt(3);
        switch (random.nextInt(6)) {
            case 0:
                poke(k, 0, 1 + random.nextInt(2));
                break;
            case 1:
                poke(k, 10 + 20 * entry, number(9));
                break;
            case 2:
            case 3:
                poke(k, 23 + 20 * entry, 1 + number(17));
                break;
            case 4:
                poke(k, 5 + 20 * entry, 2 * random.nextInt(2));
                break;
            default:
                poke(k, someByte(k), number(256));
                break;
        }
    }

    private void poke(int k, int i, int v) {
        compare("poke " + k + " " + i + " " + v, () -> x.poke(k, i, v), () -> model.poke(k, i, v));
    }

    private void cut(int k, int n) {
        compare("cut " + k + " " + n, () -> {
            x.cut(k, n);
            return 0;
        }, () -> {
            model.cut(k, n);
            return 0;
        });
    }

    private void route(int a, int b, int what) {
        compare("route " + a + " " + b + " " + what,
                () -> x.route(a, b, what), () -> model.route(a, b, what));
    }

    private void count(int what) {
        compare("count " + what, () -> x.count(what), () -> model.count(what));
    }

    /** One part of one route, or one byte of a packet. */
    private void look() {
        int size = model.air.size();
        if (size == 0 || random.nextBoolean()) {
            route(random.nextInt(8), random.nextInt(8), random.nextInt(5));
        } else {
            int k = random.nextInt(size);
            int i = random.nextInt(model.air.get(k).bytes.size() + 3) - 3;
            packet(k, i);
        }
    }

    private void packet(int k, int i) {
        compare("packet " + k + " " + i, () -> x.packet(k, i), () -> model.packet(k, i));
    }
}
