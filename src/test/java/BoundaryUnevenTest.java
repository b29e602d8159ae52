/** The edges of promises 13, 14, 15, 16: uneven, share, potential, ideal. */
public final class BoundaryUnevenTest {
    private static final Sentences T = new Sentences("BoundaryUnevenTest");
    private static final int UNKNOWN = JobSpread.UNKNOWN;
    private static final int OUTSIDE = JobSpread.OUTSIDE;
    private static final int STATE = JobSpread.STATE;

    public static void main(String[] args) {
        uneven();
        share();
        potential();
        ideal();
        T.end(13, 14, 15, 16);
    }

    /** All nodes have a load of 3, at speeds 1 to 4. */
    private static JobSpread even() {
        JobSpread x = Nets.of("ab0");
        for (int i = 0; i < 8; i++) {
            x.node(i, i % 4 + 1, 3 * (i % 4 + 1));
        }
        return x;
    }

    /** a has -1, all others nothing. */
    private static JobSpread oneBelowZeroAlone() {
        JobSpread x = Nets.withOneBelowZero();
        x.node(1, 1, 0);
        x.node(2, 1, 0);
        return x;
    }

    // ---- promise 13

    private static void uneven() {
        unevenByPart();
        unevenOfNothing();
        unevenInLowestTerms();
        unevenBelowZero();
        unevenFromFirstToLastNode();
    }

    private static void unevenByPart() {
        T.begin(13, "UNEVEN, as a fraction. OUTSIDE: part.");
        JobSpread x = new JobSpread();
        x.node(3, 2, 5);
        T.due(x, "uneven(0)", 5);
        T.due(x, "uneven(1)", 2);
        T.refused(Nets::busy, "uneven(-1)", OUTSIDE);
        T.refused(Nets::busy, "uneven(2)", OUTSIDE);
        for (int far : Sentences.FAR) {
            T.due(Nets.busy(), "uneven(" + far + ")", OUTSIDE);
        }
        T.changesNothing(Nets::busy, "uneven(0)");
    }

    private static void unevenOfNothing() {
        T.begin(13, "(above 0; of nothing 0 by 1)");
        T.fraction(new JobSpread(), "uneven(", 0, 1);
        T.fraction(even(), "uneven(", 0, 1);
        JobSpread x = new JobSpread();
        for (int i = 0; i < 8; i++) {
            x.node(i, 4, 999);
        }
        T.fraction(x, "uneven(", 0, 1);
        x.node(0, 4, 998);
        T.fraction(x, "uneven(", 1, 4);
    }

    private static void unevenInLowestTerms() {
        T.begin(13, "Fractions are told in lowest terms by part: 0 the upper, 1 the lower number");
        JobSpread x = new JobSpread();
        x.node(0, 4, 8);
        T.fraction(x, "uneven(", 2, 1);
        x.node(0, 4, 6);
        T.fraction(x, "uneven(", 3, 2);
        x.node(0, 4, 7);
        T.fraction(x, "uneven(", 7, 4);
        x.node(0, 1, 999);
        T.fraction(x, "uneven(", 999, 1);
        JobSpread y = even();
        y.node(2, 3, 10);
        y.node(3, 4, 11);
        T.fraction(y, "uneven(", 7, 12);
    }

    private static void unevenBelowZero() {
        T.begin(13, "UNEVEN: the greatest LOAD less the least.");
        T.fraction(oneBelowZeroAlone(), "uneven(", 1, 1);
        T.fraction(Nets.withOneBelowZero(), "uneven(", 5, 4);
        T.fraction(Nets.withJobsBelowZero(), "uneven(", 9, 4);
        JobSpread x = oneBelowZeroAlone();
        x.node(0, 4, 0);
        T.fraction(x, "uneven(", 0, 1);
    }

    private static void unevenFromFirstToLastNode() {
        T.begin(13, "LOAD of a NODE: JOBS by SPEED.");
        for (int i = 0; i < 8; i++) {
            JobSpread high = even();
            high.node(i, 1, 5);
            T.fraction(high, "uneven(", 2, 1);
            JobSpread low = even();
            low.node(i, 2, 1);
            T.fraction(low, "uneven(", 5, 2);
        }
    }

    // ---- promise 14

    private static void share() {
        shareOfUnknownNode();
        shareByPart();
        shareOfNothing();
        shareBelowZero();
        shareRefusalsInOrder();
    }

    private static void shareOfUnknownNode() {
        T.begin(14, "SHARE of a NODE, as a fraction. UNKNOWN");
        JobSpread x = even();
        T.fraction(x, "share(0, ", 3, 1);
        T.fraction(x, "share(7, ", 12, 1);
        T.refused(Nets::busy, "share(-1, 0)", UNKNOWN);
        T.refused(Nets::busy, "share(8, 0)", UNKNOWN);
        for (int far : Sentences.FAR) {
            T.due(Nets.busy(), "share(" + far + ", 0)", UNKNOWN);
        }
        T.changesNothing(Nets::busy, "share(0, 0)");
    }

    private static void shareByPart() {
        T.begin(14, "OUTSIDE: part; STATE");
        T.refused(Nets::busy, "share(0, -1)", OUTSIDE);
        T.refused(Nets::busy, "share(7, 2)", OUTSIDE);
        for (int far : Sentences.FAR) {
            T.due(Nets.busy(), "share(0, " + far + ")", OUTSIDE);
        }
    }

    private static void shareOfNothing() {
        T.begin(14, "SHARE of a NODE: all JOBS times its SPEED by all SPEEDS.");
        for (int i = 0; i < 8; i++) {
            T.fraction(new JobSpread(), "share(" + i + ", ", 0, 1);
        }
        JobSpread x = new JobSpread();
        x.node(7, 1, 1);
        T.fraction(x, "share(0, ", 1, 8);
        for (int i = 0; i < 8; i++) {
            x.node(i, 4, 999);
        }
        T.fraction(x, "share(0, ", 999, 1);
    }

    private static void shareBelowZero() {
        T.begin(14, "STATE: all JOBS together are below 0.");
        JobSpread x = Nets.withJobsBelowZero();
        T.due(x, "count(3)", 10001);
        T.fraction(x, "share(1, ", 4, 17);
        x.node(1, 4, 0);
        T.due(x, "count(3)", 10000);
        T.due(x, "count(6)", 1);
        T.fraction(x, "share(0, ", 0, 1);
        x.node(2, 4, 0);
        T.due(x, "count(3)", 9999);
        T.due(x, "share(0, 0)", STATE);
        T.due(x, "share(7, 1)", STATE);
        T.refused(BoundaryUnevenTest::oneBelowZeroAlone, "share(0, 0)", STATE);
        T.refused(BoundaryUnevenTest::oneBelowZeroAlone, "share(7, 1)", STATE);
    }

    private static void shareRefusalsInOrder() {
        T.begin(14, "UNKNOWN; OUTSIDE: part; STATE: all JOBS together are below 0.");
        T.due(Nets.busy(), "share(8, 2)", UNKNOWN);
        T.due(oneBelowZeroAlone(), "share(8, 2)", UNKNOWN);
        T.due(oneBelowZeroAlone(), "share(-1, 0)", UNKNOWN);
        T.due(oneBelowZeroAlone(), "share(0, 2)", OUTSIDE);
        T.due(oneBelowZeroAlone(), "share(0, -1)", OUTSIDE);
    }

    // ---- promise 15

    private static void potential() {
        T.begin(15, "multiplied by itself: the sum of all");
        T.due(new JobSpread(), "potential()", 0);
        T.due(even(), "potential()", 0);
        JobSpread one = new JobSpread();
        one.node(7, 1, 1);
        T.due(one, "potential()", 7 * 7 + 7);
        T.due(oneBelowZeroAlone(), "potential()", 7 * 7 + 7);
        T.changesNothing(Nets::busy, "potential()");
        potentialAboveAnInt();
    }

    private static void potentialAboveAnInt() {
        T.begin(15, "For each NODE what JOBS times all SPEEDS is more or less than all JOBS times its SPEED");
        JobSpread x = new JobSpread();
        for (int i = 0; i < 8; i++) {
            x.node(i, 4, 0);
        }
        x.node(0, 4, 999);
        T.due(x, "potential()", 27972L * 27972 + 7 * 3996L * 3996);
        JobSpread y = Nets.of("ab0");
        y.node(0, 4, 999);
        y.node(1, 1, 999);
        y.run(1, 1);
        for (int i = 1; i < 8; i++) {
            y.node(i, 4, 0);
        }
        y.node(7, 4, 999);
        T.due(y, "jobs(0)", 11599);
        long all = 1599 + 999;
        long off = 1599 * 32 - all * 4;
        long offLast = 999 * 32 - all * 4;
        T.due(y, "potential()", off * off + offLast * offLast + 6 * (all * 4) * (all * 4));
        T.holds("it is more than an int holds", y.potential() > Integer.MAX_VALUE);
    }

    // ---- promise 16

    private static void ideal() {
        idealOfUnknownNode();
        idealBehindNoneToEightRounds();
        idealByPart();
        idealBelowZero();
        idealRefusalsInOrder();
        idealOfNothing();
        idealWithoutCarry();
        idealOfUnlikeSpeeds();
        idealOfLongNumbers();
        idealChangesNothing();
    }

    private static void idealOfUnknownNode() {
        T.begin(16, "IDEAL of a NODE behind r ROUNDS (0 to 8), as a fraction. UNKNOWN");
        T.due(even(), "ideal(0, 0, 0)", 3);
        T.due(even(), "ideal(7, 8, 0)", 12);
        T.refused(Nets::busy, "ideal(-1, 0, 0)", UNKNOWN);
        T.refused(Nets::busy, "ideal(8, 0, 0)", UNKNOWN);
        for (int far : Sentences.FAR) {
            T.due(Nets.busy(), "ideal(" + far + ", 0, 0)", UNKNOWN);
        }
    }

    private static void idealBehindNoneToEightRounds() {
        T.begin(16, "behind r ROUNDS (0 to 8)");
        JobSpread x = Nets.of("ab0");
        x.node(0, 1, 2);
        long upper = 1;
        long lower = 1;
        for (int r = 0; r <= 8; r++) {
            // What is uneven is three quarters of it behind each round.
            T.fraction(x, "ideal(0, " + r + ", ", r == 0 ? 2 : lower + upper, lower);
            T.fraction(x, "ideal(1, " + r + ", ", lower - upper, lower);
            upper *= 3;
            lower *= 4;
        }
        T.refused(Nets::busy, "ideal(0, -1, 0)", OUTSIDE);
        T.refused(Nets::busy, "ideal(0, 9, 0)", OUTSIDE);
        for (int far : Sentences.FAR) {
            T.due(Nets.busy(), "ideal(0, " + far + ", 0)", OUTSIDE);
        }
    }

    private static void idealByPart() {
        T.begin(16, "OUTSIDE: r, part");
        T.refused(Nets::busy, "ideal(0, 0, -1)", OUTSIDE);
        T.refused(Nets::busy, "ideal(0, 8, 2)", OUTSIDE);
        T.due(Nets.busy(), "ideal(0, 9, 2)", OUTSIDE);
        for (int far : Sentences.FAR) {
            T.due(Nets.busy(), "ideal(0, 0, " + far + ")", OUTSIDE);
        }
    }

    private static void idealBelowZero() {
        T.begin(16, "STATE: some NODE has JOBS below 0.");
        T.refused(Nets::withOneBelowZero, "ideal(0, 0, 0)", STATE);
        T.refused(Nets::withOneBelowZero, "ideal(7, 8, 1)", STATE);
        JobSpread x = Nets.withOneBelowZero();
        x.node(3, 1, 999);
        T.due(x, "ideal(3, 0, 0)", STATE);
        x.node(0, 1, 0);
        T.fraction(x, "ideal(0, 0, ", 0, 1);
        T.fraction(x, "ideal(1, 0, ", 1, 1);
    }

    private static void idealRefusalsInOrder() {
        T.begin(16, "UNKNOWN; OUTSIDE: r, part; STATE: some NODE has JOBS below 0.");
        T.due(Nets.busy(), "ideal(8, 9, 2)", UNKNOWN);
        T.due(Nets.withOneBelowZero(), "ideal(-1, 0, 0)", UNKNOWN);
        T.due(Nets.withOneBelowZero(), "ideal(8, -1, -1)", UNKNOWN);
        T.due(Nets.withOneBelowZero(), "ideal(0, 9, 0)", OUTSIDE);
        T.due(Nets.withOneBelowZero(), "ideal(0, -1, 0)", OUTSIDE);
        T.due(Nets.withOneBelowZero(), "ideal(0, 0, 2)", OUTSIDE);
    }

    private static void idealOfNothing() {
        T.begin(16, "of nothing 0 by 1");
        for (int r = 0; r <= 8; r++) {
            T.fraction(new JobSpread(), "ideal(0, " + r + ", ", 0, 1);
            T.fraction(Nets.of(Nets.TWELVE), "ideal(7, " + r + ", ", 0, 1);
            JobSpread x = new JobSpread();
            x.node(7, 3, 999);
            T.fraction(x, "ideal(7, " + r + ", ", 999, 1);
        }
    }

    private static void idealWithoutCarry() {
        T.begin(16, "IDEAL behind r ROUNDS: as FLOW, but that nothing is cut (GO is a fraction), without what CARRY"
                + " was.");
        JobSpread x = Nets.of("ab0");
        x.node(0, 1, 7);
        x.run(0, 1);
        T.due(x, "carry(0, 1)", 10007);
        T.fraction(x, "ideal(0, 1, ", 49, 8);
        T.fraction(x, "ideal(1, 1, ", 7, 8);
    }

    // 5 times 2 less 7 times 3 are to go, by 8; then 51 times 2 less 45 times 3, by 64.
    private static void idealOfUnlikeSpeeds() {
        T.begin(16, "as FLOW, but that nothing is cut");
        for (int a = 0; a < 8; a++) {
            for (int b = a + 1; b < 8; b++) {
                JobSpread x = new JobSpread();
                x.edge(b, a, 3);
                x.node(a, 3, 5);
                x.node(b, 2, 7);
                T.fraction(x, "ideal(" + a + ", 1, ", 51, 8);
                T.fraction(x, "ideal(" + b + ", 1, ", 45, 8);
                T.fraction(x, "ideal(" + a + ", 2, ", 441, 64);
                T.fraction(x, "ideal(" + b + ", 2, ", 327, 64);
            }
        }
    }

    // A star: what the leaves have together, and what one leaf has more than another, shrink each by its
    // own fraction, 3 by 4 and 31 by 32; from both comes what each leaf has.
    private static void idealOfLongNumbers() {
        T.begin(16, "nothing is cut (GO is a fraction)");
        JobSpread x = Nets.of(Nets.star(0));
        x.node(1, 1, 1);
        long leaves = (8L << 16) - ((1L << 16) - 6561);
        long apart = 31L * 31 * 31 * 31 * 31 * 31 * 31 * 31;
        T.due(x, "ideal(2, 8, 1)", 1L << 40);
        T.due(x, "ideal(2, 8, 0)", ((leaves << 21) - apart) / 7);
        T.due(x, "ideal(1, 8, 1)", 1L << 39);
        T.due(x, "ideal(1, 8, 0)", ((leaves << 21) + 6 * apart) / 7 / 2);
        T.fraction(x, "ideal(0, 8, ", (1L << 16) - 6561, 1L << 19);
        x.node(1, 1, 999);
        T.due(x, "ideal(2, 8, 1)", 1L << 40);
        T.due(x, "ideal(2, 8, 0)", 999 * (((leaves << 21) - apart) / 7));
    }

    private static void idealChangesNothing() {
        T.begin(16, "IDEAL of a NODE behind r ROUNDS");
        T.changesNothing(Nets::busy, "ideal(0, 8, 0)");
        T.changesNothing(Nets::full, "ideal(0, 8, 1)");
    }
}
