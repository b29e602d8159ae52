/** Whole jobs spread over a net. */
public final class JobSpread {
    public static final int UNKNOWN = -1, OUTSIDE = -2, STATE = -3, FULL = -4, NONE = -6, FAULT = -7;

    private static final int NODES = 8;
    private static final int MOST_EDGES = 12;
    private static final int MOST_COLOUR = 3;
    private static final int MOST_SPEED = 4;
    private static final int MOST_JOBS = 999;
    private static final int MOST_SIGNS = 40;
    private static final int SIGNS_OF_EDGE = 3;
    private static final int NO_EDGE = -1;
    private static final int FLOW = 0;
    private static final int EXCHANGE = 1;
    private static final int ROTOR = 2;
    private static final int MOST_ROUNDS_RUN = 50;
    private static final int MOST_ROUNDS_IDEAL = 8;
    private static final int MOST_ROUNDS_UNTIL = 200;
    private static final int MOST_ROUNDS_RING = 300;
    private static final int MOST_UNEVEN = 99;
    private static final int IMAGES = 2;
    private static final int FIRST_COLOUR_QUESTION = 10;
    // Euclid's way ends within 93 steps for any two longs.
    private static final int MOST_DIVISIONS = 100;
    // JOBS below 0 must not look like a refusal.
    private static final int ADDED = 10000;

    private final Pad pad = new Pad();
    private final Net now = new Net();
    private final Net firstImage = new Net();
    private final Net secondImage = new Net();
    // One bit for each image that is kept.
    private int kept = 0;
    // Calls that look ahead walk on these, so that nothing changes and nothing is made anew.
    private final Net walker = new Net();
    private final Net marker = new Net();
    private final long[] level = new long[NODES];
    private final long[] nextLevel = new long[NODES];

    public JobSpread() {
    }

    // ---- 1 nodes, edges

    public int node(int node, int speed, int jobs) {
        if (!isNode(node)) {
            return UNKNOWN;
        }
        if (!isWithin(speed, 1, MOST_SPEED) || !isWithin(jobs, 0, MOST_JOBS)) {
            return OUTSIDE;
        }
        int before = now.jobs[node];
        now.speed[node] = speed;
        now.jobs[node] = jobs;
        return before + ADDED;
    }

    public int edge(int one, int other, int colour) {
        if (!isNode(one) || !isNode(other)) {
            return UNKNOWN;
        }
        if (one == other || !isWithin(colour, NO_EDGE, MOST_COLOUR)) {
            return OUTSIDE;
        }
        if (colour == NO_EDGE) {
            now.lift(one, other);
            return now.edges;
        }
        if (!now.joins(one, other) && now.edges >= MOST_EDGES) {
            return FULL;
        }
        now.lay(one, other, colour);
        return now.edges;
    }

    public int say(int sign) {
        if (!isWithin(sign, 33, 126)) {
            return OUTSIDE;
        }
        if (pad.length >= MOST_SIGNS) {
            return FULL;
        }
        pad.add(sign);
        return pad.length;
    }

    public int wipe() {
        int had = pad.length;
        pad.length = 0;
        return had;
    }

    public int fault() {
        return pad.firstFault();
    }

    public int net() {
        if (pad.firstFault() != NONE) {
            return FAULT;
        }
        now.liftAll();
        for (int at = 0; at + 2 < pad.length; at += SIGNS_OF_EDGE) {
            now.lay(pad.nodeAt(at), pad.nodeAt(at + 1), pad.colourAt(at + 2));
        }
        pad.length = 0;
        return now.edges;
    }

    public int jobs(int node) {
        if (!isNode(node)) {
            return UNKNOWN;
        }
        return now.jobs[node] + ADDED;
    }

    public int told(int node, int what) {
        if (!isNode(node)) {
            return UNKNOWN;
        }
        switch (what) {
            case 0:
                return now.speed[node];
            case 1:
                return now.degree[node];
            case 2:
                return now.rotorLeftOver(node);
            default:
                return toldColour(node, what);
        }
    }

    private int toldColour(int node, int what) {
        if (!isWithin(what, FIRST_COLOUR_QUESTION, FIRST_COLOUR_QUESTION + NODES - 1)) {
            return OUTSIDE;
        }
        int other = what - FIRST_COLOUR_QUESTION;
        return now.joins(node, other) ? now.colour[spot(node, other)] : NONE;
    }

    public int carry(int one, int other) {
        if (!isNode(one) || !isNode(other)) {
            return UNKNOWN;
        }
        if (one == other) {
            return OUTSIDE;
        }
        return now.joins(one, other) ? now.carry[spot(one, other)] + ADDED : NONE;
    }

    // ---- 2 rounds

    public int run(int rule, int n) {
        if (!isRule(rule) || !isWithin(n, 1, MOST_ROUNDS_RUN)) {
            return OUTSIDE;
        }
        return now.goOn(rule, n);
    }

    public int reset() {
        int before = now.rounds;
        now.startAgain();
        return before;
    }

    // ---- 3 how uneven, how long

    public int uneven(int part) {
        if (!isPart(part)) {
            return OUTSIDE;
        }
        int high = now.mostLoaded();
        int low = now.leastLoaded();
        return (int) partOf(now.loadGap(high, low), (long) now.speed[high] * now.speed[low], part);
    }

    public int share(int node, int part) {
        if (!isNode(node)) {
            return UNKNOWN;
        }
        if (!isPart(part)) {
            return OUTSIDE;
        }
        long all = now.allJobs();
        if (all < 0) {
            return STATE;
        }
        return (int) partOf(all * now.speed[node], now.allSpeeds(), part);
    }

    public long potential() {
        long all = now.allJobs();
        long speeds = now.allSpeeds();
        long sum = 0;
        for (int i = 0; i < NODES; i++) {
            long off = now.jobs[i] * speeds - all * now.speed[i];
            sum += off * off;
        }
        return sum;
    }

    public long ideal(int node, int r, int part) {
        if (!isNode(node)) {
            return UNKNOWN;
        }
        if (!isWithin(r, 0, MOST_ROUNDS_IDEAL) || !isPart(part)) {
            return OUTSIDE;
        }
        if (now.nodesBelowZero() > 0) {
            return STATE;
        }
        for (int i = 0; i < NODES; i++) {
            level[i] = now.jobs[i];
        }
        int measure = now.measure();
        long lower = 1;
        for (int round = 0; round < r; round++) {
            flowUncut(measure);
            lower *= measure;
        }
        return partOf(level[node], lower, part);
    }

    // The levels are all held as upper numbers over one lower number, which grows by measure each round:
    // so no fraction is needed before the end, and 8 rounds stay within a long.
    private void flowUncut(int measure) {
        for (int i = 0; i < NODES; i++) {
            nextLevel[i] = level[i] * measure;
        }
        for (int a = 0; a < NODES; a++) {
            for (int b = a + 1; b < NODES; b++) {
                if (now.joins(a, b)) {
                    long want = level[a] * now.speed[b] - level[b] * now.speed[a];
                    nextLevel[a] -= want;
                    nextLevel[b] += want;
                }
            }
        }
        System.arraycopy(nextLevel, 0, level, 0, NODES);
    }

    public int until(int rule, int d) {
        if (!isRule(rule) || !isWithin(d, 0, MOST_UNEVEN)) {
            return OUTSIDE;
        }
        walker.become(now);
        for (int rounds = 0; rounds <= MOST_ROUNDS_UNTIL; rounds++) {
            if (walker.isUnevenAtMost(d)) {
                return rounds;
            }
            walker.goOn(rule, 1);
        }
        return NONE;
    }

    public int ring(int rule, int what) {
        if (!isRule(rule) || !isWithin(what, 0, 1)) {
            return OUTSIDE;
        }
        int length = ringLength(rule);
        if (length == NONE) {
            return NONE;
        }
        int start = ringStart(rule, length);
        if (start == NONE || what == 0) {
            return start;
        }
        return length;
    }

    // What comes next hangs only on what ALL IS ALIKE compares. So a ring that closes within the bound
    // has been entered behind that many rounds, and the way from there back to the same is the least p.
    private int ringLength(int rule) {
        walker.become(now);
        walker.goOn(rule, MOST_ROUNDS_RING);
        marker.become(walker);
        for (int p = 1; p <= MOST_ROUNDS_RING; p++) {
            walker.goOn(rule, 1);
            if (walker.isAlike(marker)) {
                return p;
            }
        }
        return NONE;
    }

    private int ringStart(int rule, int length) {
        marker.become(now);
        walker.become(now);
        walker.goOn(rule, length);
        for (int a = 0; a + length <= MOST_ROUNDS_RING; a++) {
            if (walker.isAlike(marker)) {
                return a;
            }
            walker.goOn(rule, 1);
            marker.goOn(rule, 1);
        }
        return NONE;
    }

    // ---- 4 images

    public int image(int k) {
        if (!isWithin(k, 0, IMAGES - 1)) {
            return OUTSIDE;
        }
        imageAt(k).become(now);
        kept |= 1 << k;
        return 1;
    }

    public int restore(int k) {
        if (!isWithin(k, 0, IMAGES - 1)) {
            return OUTSIDE;
        }
        if ((kept & (1 << k)) == 0) {
            return STATE;
        }
        now.become(imageAt(k));
        return 1;
    }

    private Net imageAt(int k) {
        return k == 0 ? firstImage : secondImage;
    }

    public int count(int what) {
        switch (what) {
            case 0:
                return now.edges;
            case 1:
                return pad.length;
            case 2:
                return now.rounds;
            case 3:
                return (int) now.allJobs() + ADDED;
            case 4:
                return now.measure();
            case 5:
                return now.colours();
            case 6:
                return now.nodesBelowZero();
            case 7:
                return kept;
            default:
                return OUTSIDE;
        }
    }

    // ---- what all calls share

    private static boolean isWithin(int number, int least, int most) {
        return number >= least && number <= most;
    }

    private static boolean isNode(int number) {
        return isWithin(number, 0, NODES - 1);
    }

    private static boolean isRule(int number) {
        return isWithin(number, FLOW, ROTOR);
    }

    private static boolean isPart(int number) {
        return isWithin(number, 0, 1);
    }

    // An edge has one place in the rows, whichever of its nodes is named first.
    private static int spot(int one, int other) {
        return one < other ? one * NODES + other : other * NODES + one;
    }

    private static long partOf(long upper, long lower, int part) {
        long common = commonDivisor(upper, lower);
        if (common == 0) {
            return part;
        }
        return (part == 0 ? upper : lower) / common;
    }

    private static long commonDivisor(long one, long other) {
        long big = Math.abs(one);
        long small = Math.abs(other);
        for (int i = 0; i < MOST_DIVISIONS && small != 0; i++) {
            long left = big % small;
            big = small;
            small = left;
        }
        return big;
    }

    /** The signs said, and whether they tell edges. */
    private static final class Pad {
        private final int[] signs = new int[MOST_SIGNS];
        private int length = 0;

        private void add(int sign) {
            if (length < MOST_SIGNS) {
                signs[length] = sign;
                length++;
            }
        }

        private int nodeAt(int at) {
            return signs[at] - 'a';
        }

        private int colourAt(int at) {
            return signs[at] - '0';
        }

        private int firstFault() {
            for (int at = 0; at < length; at++) {
                if (!canStand(at)) {
                    return at;
                }
            }
            return length % SIGNS_OF_EDGE == 0 ? NONE : length;
        }

        // Asked from the first sign on: all signs ahead of this one can stand.
        private boolean canStand(int at) {
            if (at >= MOST_EDGES * SIGNS_OF_EDGE) {
                return false;
            }
            switch (at % SIGNS_OF_EDGE) {
                case 0:
                    return isNode(nodeAt(at));
                case 1:
                    return isNode(nodeAt(at)) && signs[at] != signs[at - 1] && !isToldBefore(at - 1);
                default:
                    return isWithin(colourAt(at), 0, MOST_COLOUR);
            }
        }

        private boolean isToldBefore(int first) {
            int here = spot(nodeAt(first), nodeAt(first + 1));
            for (int at = 0; at < first; at += SIGNS_OF_EDGE) {
                if (spot(nodeAt(at), nodeAt(at + 1)) == here) {
                    return true;
                }
            }
            return false;
        }
    }

    /** All that an image keeps, and how rounds change it. */
    private static final class Net {
        private final int[] speed = new int[NODES];
        private final int[] jobs = new int[NODES];
        private final int[] rotor = new int[NODES];
        private final int[] degree = new int[NODES];
        private final int[] colour = new int[NODES * NODES];
        private final int[] carry = new int[NODES * NODES];
        // What a round gives and takes, held back until all nodes have been looked at.
        private final int[] change = new int[NODES];
        private int edges = 0;
        private int rounds = 0;

        private Net() {
            for (int i = 0; i < NODES; i++) {
                speed[i] = 1;
            }
            for (int i = 0; i < NODES * NODES; i++) {
                colour[i] = NO_EDGE;
            }
        }

        private void become(Net other) {
            System.arraycopy(other.speed, 0, speed, 0, NODES);
            System.arraycopy(other.jobs, 0, jobs, 0, NODES);
            System.arraycopy(other.rotor, 0, rotor, 0, NODES);
            System.arraycopy(other.degree, 0, degree, 0, NODES);
            System.arraycopy(other.colour, 0, colour, 0, NODES * NODES);
            System.arraycopy(other.carry, 0, carry, 0, NODES * NODES);
            edges = other.edges;
            rounds = other.rounds;
        }

        private boolean joins(int one, int other) {
            return colour[spot(one, other)] != NO_EDGE;
        }

        private void lay(int one, int other, int newColour) {
            lift(one, other);
            colour[spot(one, other)] = newColour;
            degree[one]++;
            degree[other]++;
            edges++;
        }

        // A carry goes with its edge, so that an edge laid later starts from 0.
        private void lift(int one, int other) {
            if (!joins(one, other)) {
                return;
            }
            colour[spot(one, other)] = NO_EDGE;
            carry[spot(one, other)] = 0;
            degree[one]--;
            degree[other]--;
            edges--;
        }

        private void liftAll() {
            for (int a = 0; a < NODES; a++) {
                for (int b = a + 1; b < NODES; b++) {
                    lift(a, b);
                }
            }
        }

        private void startAgain() {
            for (int i = 0; i < NODES; i++) {
                rotor[i] = 0;
            }
            for (int i = 0; i < NODES * NODES; i++) {
                carry[i] = 0;
            }
            rounds = 0;
        }

        private int slots(int node) {
            return degree[node] > 0 ? degree[node] + 1 : 1;
        }

        private int rotorLeftOver(int node) {
            return rotor[node] % slots(node);
        }

        private int measure() {
            int most = 1;
            for (int i = 0; i < NODES; i++) {
                most = Math.max(most, slots(i));
            }
            return 4 * most;
        }

        private int colours() {
            int greatest = 0;
            for (int i = 0; i < NODES * NODES; i++) {
                greatest = Math.max(greatest, colour[i]);
            }
            return greatest + 1;
        }

        private int allSpeeds() {
            int all = 0;
            for (int i = 0; i < NODES; i++) {
                all += speed[i];
            }
            return all;
        }

        private long allJobs() {
            long all = 0;
            for (int i = 0; i < NODES; i++) {
                all += jobs[i];
            }
            return all;
        }

        private int nodesBelowZero() {
            int below = 0;
            for (int i = 0; i < NODES; i++) {
                if (jobs[i] < 0) {
                    below++;
                }
            }
            return below;
        }

        // By how much the load of one is above that of the other, times both speeds.
        private long loadGap(int one, int other) {
            return (long) jobs[one] * speed[other] - (long) jobs[other] * speed[one];
        }

        private int mostLoaded() {
            int most = 0;
            for (int i = 1; i < NODES; i++) {
                if (loadGap(i, most) > 0) {
                    most = i;
                }
            }
            return most;
        }

        private int leastLoaded() {
            int least = 0;
            for (int i = 1; i < NODES; i++) {
                if (loadGap(i, least) < 0) {
                    least = i;
                }
            }
            return least;
        }

        private boolean isUnevenAtMost(int bound) {
            int high = mostLoaded();
            int low = leastLoaded();
            return loadGap(high, low) <= (long) bound * speed[high] * speed[low];
        }

        private boolean isAlike(Net other) {
            for (int i = 0; i < NODES; i++) {
                if (jobs[i] != other.jobs[i] || rotorLeftOver(i) != other.rotorLeftOver(i)) {
                    return false;
                }
            }
            for (int i = 0; i < NODES * NODES; i++) {
                if (carry[i] != other.carry[i]) {
                    return false;
                }
            }
            return rounds % colours() == other.rounds % other.colours();
        }

        private int goOn(int rule, int n) {
            int moved = 0;
            for (int i = 0; i < n; i++) {
                moved += rule == FLOW ? flow() : rule == EXCHANGE ? exchange() : deal();
                rounds++;
            }
            return moved;
        }

        private int flow() {
            int measure = measure();
            int moved = 0;
            for (int a = 0; a < NODES; a++) {
                for (int b = a + 1; b < NODES; b++) {
                    if (joins(a, b)) {
                        moved += flowAlong(a, b, measure);
                    }
                }
            }
            settle();
            return moved;
        }

        private int flowAlong(int a, int b, int measure) {
            int at = spot(a, b);
            int want = carry[at] + jobs[a] * speed[b] - jobs[b] * speed[a];
            int go = measure > 0 ? want / measure : 0;
            carry[at] = want - measure * go;
            change[a] -= go;
            change[b] += go;
            return Math.abs(go);
        }

        private int exchange() {
            int turn = rounds % colours();
            int moved = 0;
            for (int a = 0; a < NODES; a++) {
                for (int b = a + 1; b < NODES; b++) {
                    if (joins(a, b) && colour[spot(a, b)] == turn) {
                        moved += exchangeAlong(a, b);
                    }
                }
            }
            return moved;
        }

        private int exchangeAlong(int a, int b) {
            int both = jobs[a] + jobs[b];
            int speeds = Math.max(speed[a] + speed[b], 1);
            int forA = Math.floorDiv(both * speed[a], speeds);
            int forB = Math.floorDiv(both * speed[b], speeds);
            if (jobs[a] >= jobs[b]) {
                forA = both - forB;
            }
            int moved = Math.abs(forA - jobs[a]);
            jobs[a] = forA;
            jobs[b] = both - forA;
            return moved;
        }

        private int deal() {
            int moved = 0;
            for (int i = 0; i < NODES; i++) {
                if (jobs[i] > 0) {
                    moved += dealFrom(i);
                }
            }
            settle();
            return moved;
        }

        // The slot of the node itself comes last and keeps what the neighbours do not get.
        private int dealFrom(int node) {
            int slots = slots(node);
            int each = jobs[node] / slots;
            int left = jobs[node] % slots;
            int first = rotorLeftOver(node);
            int slot = 0;
            int given = 0;
            for (int other = 0; other < NODES; other++) {
                if (joins(node, other)) {
                    int behindFirst = (slot - first + slots) % slots;
                    int gets = behindFirst < left ? each + 1 : each;
                    change[other] += gets;
                    given += gets;
                    slot++;
                }
            }
            change[node] -= given;
            rotor[node] = (first + left) % slots;
            return given;
        }

        private void settle() {
            for (int i = 0; i < NODES; i++) {
                jobs[i] += change[i];
                change[i] = 0;
            }
        }
    }
}
