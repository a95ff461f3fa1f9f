import java.util.Arrays;

/**
 * Eight routers that tell one another how far it is to each of them, by packets that the caller
 * lets come, lets come twice, spoils or loses. The document's promises say what each call answers.
 */
public final class HopRouters {
    public static final int NONE = -1;

    private static final int ROUTERS = 8;
    private static final int UNREACHABLE = 16;
    private static final int MOST_IN_AIR = 200;
    private static final int MOST_TICKS = 1000;
    private static final int MOST_ARRIVALS = 1000;
    private static final int MOST_HOPS = 16;
    private static final int ALL_DESTINATIONS = 255;

    private static final int TELL_PERIOD = 10;
    private static final int SILENCE = 20;
    private static final int LOST_AGE = 60;
    private static final int FORGET_AGE = 50;

    private static final int NO_ROUTE = -1;
    private static final int LINK_DOWN = -2;
    private static final int TOO_FAR = -3;

    /** Both directions of a link are kept, so that a lookup need not order its two routers. */
    private final boolean[] linked = new boolean[ROUTERS * ROUTERS];
    private final Table[] tables = new Table[ROUTERS];
    private final Air air = new Air();
    /** A packet is written here first: only when it is whole is it known whether it is sent. */
    private final Packet draft = new Packet();
    /** What comes is read from here: its answer may take the place that it had in the air. */
    private final Packet arriving = new Packet();
    private int time;
    private int linksUp;
    private int unsoundPackets;

    public HopRouters() {
        for (int router = 0; router < ROUTERS; router++) {
            tables[router] = new Table();
        }
    }

    public boolean link(int a, int b, boolean up)
            throws IndexOutOfBoundsException, IllegalArgumentException {
        checkPair(a, b);
        if (isUp(a, b) == up) {
            return false;
        }
        linked[a * ROUTERS + b] = up;
        linked[b * ROUTERS + a] = up;
        linksUp += up ? 1 : -1;
        return true;
    }

    public int sees(int router, int other)
            throws IndexOutOfBoundsException, IllegalArgumentException, IllegalStateException {
        checkPair(router, other);
        if (isUp(router, other)) {
            throw new IllegalStateException("the link is up");
        }
        return tables[router].loseNext(other);
    }

    public int restart(int router) throws IndexOutOfBoundsException {
        checkRouter(router);
        tables[router].forgetAll();
        for (int other = 0; other < ROUTERS; other++) {
            if (isUp(router, other)) {
                draft.begin(router, other, Packet.REQUEST);
                draft.addEntry(Packet.FAMILY_OF_ALL, 0, UNREACHABLE);
                air.launch(draft);
            }
        }
        return air.size;
    }

    public int ask(int router, int other, int destinations)
            throws IndexOutOfBoundsException, IllegalArgumentException, IllegalStateException {
        checkPair(router, other);
        if (destinations < 1 || destinations > ALL_DESTINATIONS) {
            throw new IllegalArgumentException("destinations are not 1 .. 255");
        }
        if (!isUp(router, other)) {
            throw new IllegalStateException("the link is down");
        }
        draft.begin(router, other, Packet.REQUEST);
        for (int d = 0; d < ROUTERS; d++) {
            if ((destinations >> d & 1) == 1) {
                draft.addEntry(Packet.FAMILY, d, UNREACHABLE);
            }
        }
        air.launch(draft);
        return air.size;
    }

    public int tick(int n, boolean all) throws IllegalArgumentException {
        if (n < 0 || n > MOST_TICKS) {
            throw new IllegalArgumentException("n is not 0 .. 1000");
        }
        for (int i = 0; i < n; i++) {
            passTime();
            for (int came = 0; all && came < MOST_ARRIVALS && air.size > 0; came++) {
                bring(0);
            }
        }
        return air.size;
    }

    public boolean deliver(int k) throws IndexOutOfBoundsException {
        checkPacket(k);
        return bring(k);
    }

    public int lose(int k) throws IndexOutOfBoundsException {
        checkPacket(k);
        air.remove(k);
        return air.size;
    }

    public int twice(int k) throws IndexOutOfBoundsException {
        checkPacket(k);
        air.launch(air.at(k));
        return air.size;
    }

    public int poke(int k, int i, int v)
            throws IndexOutOfBoundsException, IllegalArgumentException {
        checkPacket(k);
        Packet poked = air.at(k);
        checkByte(poked, i);
        if (v < 0 || v > 255) {
            throw new IllegalArgumentException("v is not 0 .. 255");
        }
        int old = poked.byteAt(i);
        poked.setByte(i, v);
        return old;
    }

    public void cut(int k, int n) throws IndexOutOfBoundsException, IllegalArgumentException {
        checkPacket(k);
        Packet shortened = air.at(k);
        if (n < 0 || n > shortened.length) {
            throw new IllegalArgumentException("the packet has not so many bytes");
        }
        shortened.length = n;
    }

    public int packet(int k, int i) throws IndexOutOfBoundsException {
        checkPacket(k);
        Packet read = air.at(k);
        if (i == -3) {
            return read.from;
        }
        if (i == -2) {
            return read.to;
        }
        if (i == NONE) {
            return read.length;
        }
        checkByte(read, i);
        return read.byteAt(i);
    }

    public int route(int router, int to, int what) throws IndexOutOfBoundsException {
        checkRouter(router);
        checkRouter(to);
        if (what < 0 || what > 4) {
            throw new IndexOutOfBoundsException("no such what");
        }
        if (router == to) {
            return what == 0 ? 0 : NONE;
        }
        return tables[router].read(to, what);
    }

    public int send(int from, int to) throws IndexOutOfBoundsException {
        checkRouter(from);
        checkRouter(to);
        int at = from;
        int hops = 0;
        while (at != to && hops < MOST_HOPS) {
            Table table = tables[at];
            if (!table.reaches(to)) {
                return NO_ROUTE;
            }
            int next = table.next[to];
            if (!isUp(at, next)) {
                return LINK_DOWN;
            }
            at = next;
            hops++;
        }
        return at == to ? hops : TOO_FAR;
    }

    public int count(int what) throws IndexOutOfBoundsException {
        switch (what) {
            case 0:
                return air.size;
            case 1:
                return air.lost;
            case 2:
                return air.sent;
            case 3:
                return time;
            case 4:
                return linksUp;
            case 5:
                return unsoundPackets;
            default:
                throw new IndexOutOfBoundsException("no such what");
        }
    }

    private static void checkRouter(int router) {
        if (router < 0 || router >= ROUTERS) {
            throw new IndexOutOfBoundsException("no such router");
        }
    }

    private static void checkPair(int a, int b) {
        checkRouter(a);
        checkRouter(b);
        if (a == b) {
            throw new IllegalArgumentException("both routers are the same");
        }
    }

    private void checkPacket(int k) {
        if (k < 0 || k >= air.size) {
            throw new IndexOutOfBoundsException("no such packet");
        }
    }

    private static void checkByte(Packet packet, int i) {
        if (i < 0 || i >= packet.length) {
            throw new IndexOutOfBoundsException("no such byte");
        }
    }

    private boolean isUp(int a, int b) {
        return linked[a * ROUTERS + b];
    }

    private void passTime() {
        time++;
        for (int router = 0; router < ROUTERS; router++) {
            tables[router].growOlder();
        }
        for (int router = 0; router < ROUTERS; router++) {
            tellInTurn(router);
        }
    }

    private void tellInTurn(int router) {
        Table table = tables[router];
        boolean everything = (time + router) % TELL_PERIOD == 0;
        if (!everything && !table.hasChanges()) {
            return;
        }
        for (int other = 0; other < ROUTERS; other++) {
            if (isUp(router, other)) {
                tell(router, other, everything);
            }
        }
        table.clearChanges();
    }

    /**
     * Everything: all routes and the router itself; else the changed routes alone, of which the
     * caller knows that there are some, so that there is always an entry to send.
     */
    private void tell(int router, int neighbour, boolean everything) {
        Table table = tables[router];
        draft.begin(router, neighbour, Packet.RESPONSE);
        if (everything) {
            draft.addEntry(Packet.FAMILY, router, 1);
        }
        for (int d = 0; d < ROUTERS; d++) {
            if (everything ? table.has(d) : table.changed[d]) {
                draft.addEntry(Packet.FAMILY, d, table.metricTold(d, neighbour));
            }
        }
        air.launch(draft);
    }

    /** Answers whether the link was up. */
    private boolean bring(int k) {
        arriving.become(air.at(k));
        air.remove(k);
        if (!isUp(arriving.from, arriving.to)) {
            air.lost++;
            return false;
        }
        if (!arriving.isSound()) {
            unsoundPackets++;
        } else if (arriving.isRequest()) {
            answerRequest();
        } else {
            hearResponse();
        }
        return true;
    }

    private void hearResponse() {
        Table table = tables[arriving.to];
        int entries = arriving.entries();
        for (int e = 0; e < entries; e++) {
            if (arriving.isSoundEntry(e)) {
                int d = arriving.destination(e);
                if (d != arriving.to) {
                    table.hear(d, arriving.metric(e), arriving.from);
                }
            }
        }
    }

    private void answerRequest() {
        int router = arriving.to;
        if (arriving.asksForAll()) {
            tell(router, arriving.from, true);
            return;
        }
        draft.begin(router, arriving.from, Packet.RESPONSE);
        int entries = arriving.entries();
        for (int e = 0; e < entries; e++) {
            if (arriving.isSoundEntry(e)) {
                int d = arriving.destination(e);
                draft.addEntry(Packet.FAMILY, d, metricAnswered(router, d));
            }
        }
        if (draft.entries() > 0) {
            air.launch(draft);
        }
    }

    private int metricAnswered(int router, int d) {
        if (d == router) {
            return 1;
        }
        return tables[router].has(d) ? tables[router].metric[d] : UNREACHABLE;
    }

    /** What one router knows: a route or none to each other one. It has none to itself, ever. */
    private static final class Table {
        final int[] metric = new int[ROUTERS];
        final int[] next = new int[ROUTERS];
        final int[] age = new int[ROUTERS];
        final int[] silent = new int[ROUTERS];
        final boolean[] changed = new boolean[ROUTERS];

        Table() {
            Arrays.fill(metric, NONE);
        }

        boolean has(int d) {
            return metric[d] != NONE;
        }

        boolean reaches(int d) {
            return has(d) && metric[d] < UNREACHABLE;
        }

        int read(int d, int what) {
            if (!has(d)) {
                return NONE;
            }
            switch (what) {
                case 0:
                    return metric[d];
                case 1:
                    return next[d];
                case 2:
                    return age[d];
                case 3:
                    return changed[d] ? 1 : 0;
                default:
                    return silent[d];
            }
        }

        /** A neighbour that is the next hop itself must never come back here for the route. */
        int metricTold(int d, int neighbour) {
            return next[d] == neighbour ? UNREACHABLE : Math.min(metric[d] + 1, UNREACHABLE);
        }

        void hear(int d, int told, int from) {
            if (!has(d)) {
                if (told < UNREACHABLE) {
                    adopt(d, told, from);
                }
            } else if (silent[d] == 0) {
                if (next[d] == from) {
                    hearFromNext(d, told);
                } else if (told < metric[d]) {
                    adopt(d, told, from);
                }
            }
        }

        private void hearFromNext(int d, int told) {
            if (told < UNREACHABLE) {
                age[d] = 0;
            }
            if (told == metric[d]) {
                return;
            }
            if (told == UNREACHABLE) {
                becomeGone(d);
            } else {
                metric[d] = told;
                changed[d] = true;
            }
        }

        private void adopt(int d, int told, int from) {
            metric[d] = told;
            next[d] = from;
            age[d] = 0;
            silent[d] = 0;
            changed[d] = true;
        }

        private void becomeGone(int d) {
            metric[d] = UNREACHABLE;
            age[d] = 0;
            silent[d] = SILENCE;
            changed[d] = true;
        }

        private void forget(int d) {
            metric[d] = NONE;
            changed[d] = false;
        }

        void forgetAll() {
            for (int d = 0; d < ROUTERS; d++) {
                forget(d);
            }
        }

        int loseNext(int other) {
            int gone = 0;
            for (int d = 0; d < ROUTERS; d++) {
                if (reaches(d) && next[d] == other && silent[d] == 0) {
                    becomeGone(d);
                    gone++;
                }
            }
            return gone;
        }

        void growOlder() {
            for (int d = 0; d < ROUTERS; d++) {
                if (has(d)) {
                    ageRoute(d);
                }
            }
        }

        private void ageRoute(int d) {
            age[d]++;
            if (silent[d] > 0) {
                silent[d]--;
            }
            if (metric[d] < UNREACHABLE) {
                if (age[d] >= LOST_AGE) {
                    becomeGone(d);
                }
            } else if (age[d] >= FORGET_AGE) {
                forget(d);
            }
        }

        boolean hasChanges() {
            for (int d = 0; d < ROUTERS; d++) {
                if (changed[d]) {
                    return true;
                }
            }
            return false;
        }

        void clearChanges() {
            for (int d = 0; d < ROUTERS; d++) {
                changed[d] = false;
            }
        }
    }

    /**
     * The bytes of a packet stand four to a word, the first one highest: a packet then takes a
     * quarter of the room, and a whole field of an entry is looked at in one step.
     */
    private static final class Packet {
        static final int REQUEST = 0x01020000;
        static final int RESPONSE = 0x02020000;
        static final int FAMILY = 2;
        static final int FAMILY_OF_ALL = 0;

        private static final int HEAD_BYTES = 4;
        private static final int ENTRY_BYTES = 20;
        private static final int ENTRY_WORDS = 5;
        private static final int MOST_BYTES = HEAD_BYTES + ROUTERS * ENTRY_BYTES;
        private static final int ADDRESS = 0x0A000000;
        private static final int ANY_BYTE_D = 0x0000FF00;
        private static final int ANY_ROUTER_D = 0x00000700;
        private static final int MASK = 0xFFFFFF00;

        int from;
        int to;
        int length;
        private final int[] words = new int[MOST_BYTES / 4];

        void begin(int from, int to, int head) {
            this.from = from;
            this.to = to;
            words[0] = head;
            length = HEAD_BYTES;
        }

        void addEntry(int family, int d, int metric) {
            if (length > MOST_BYTES - ENTRY_BYTES) {
                return;
            }
            int w = firstWord(entries());
            words[w] = family << 16;
            words[w + 1] = ADDRESS | d << 8;
            words[w + 2] = MASK;
            words[w + 3] = 0;
            words[w + 4] = metric;
            length += ENTRY_BYTES;
        }

        void become(Packet other) {
            from = other.from;
            to = other.to;
            length = other.length;
            System.arraycopy(other.words, 0, words, 0, words.length);
        }

        int byteAt(int i) {
            return words[i >> 2] >>> shiftOf(i) & 255;
        }

        void setByte(int i, int v) {
            int rest = words[i >> 2] & ~(255 << shiftOf(i));
            words[i >> 2] = rest | v << shiftOf(i);
        }

        private static int shiftOf(int i) {
            return (3 - (i & 3)) * 8;
        }

        boolean isSound() {
            return length >= HEAD_BYTES + ENTRY_BYTES
                    && (length - HEAD_BYTES) % ENTRY_BYTES == 0
                    && (words[0] == REQUEST || words[0] == RESPONSE);
        }

        boolean isRequest() {
            return words[0] == REQUEST;
        }

        int entries() {
            return (length - HEAD_BYTES) / ENTRY_BYTES;
        }

        private static int firstWord(int e) {
            return 1 + e * ENTRY_WORDS;
        }

        boolean isSoundEntry(int e) {
            int metric = metric(e);
            return words[firstWord(e)] == FAMILY << 16
                    && hasPlainFields(e, ANY_ROUTER_D)
                    && metric >= 1 && metric <= UNREACHABLE;
        }

        boolean asksForAll() {
            return entries() == 1
                    && words[firstWord(0)] == FAMILY_OF_ALL << 16
                    && hasPlainFields(0, ANY_BYTE_D)
                    && metric(0) == UNREACHABLE;
        }

        private boolean hasPlainFields(int e, int freeBits) {
            int w = firstWord(e);
            return (words[w + 1] & ~freeBits) == ADDRESS
                    && words[w + 2] == MASK
                    && words[w + 3] == 0;
        }

        int destination(int e) {
            return words[firstWord(e) + 1] >> 8 & 255;
        }

        /** The whole last word: it is no metric either if one of the three bytes before is not 0. */
        int metric(int e) {
            return words[firstWord(e) + 4];
        }
    }

    /** The packets on their way, the oldest first. All places are made once and used again. */
    private static final class Air {
        private final Packet[] places = new Packet[MOST_IN_AIR];
        /** Each place once: the first ones, by age of their packets, are in use, the rest free. */
        private final int[] order = new int[MOST_IN_AIR];
        int size;
        int sent;
        int lost;

        Air() {
            for (int i = 0; i < MOST_IN_AIR; i++) {
                places[i] = new Packet();
                order[i] = i;
            }
        }

        Packet at(int k) {
            return places[order[k]];
        }

        void launch(Packet original) {
            sent++;
            if (size >= MOST_IN_AIR) {
                lost++;
                return;
            }
            places[order[size]].become(original);
            size++;
        }

        void remove(int k) {
            int freed = order[k];
            size--;
            System.arraycopy(order, k + 1, order, k, size - k);
            order[size] = freed;
        }
    }
}
