import java.util.HashMap;
import java.util.Map;

/**
 * The edges of promises 17 and 18: until, ring. Where a bound is met only behind hundreds of rounds, these
 * are walked by run on objects of their own, so that what is due does not come from until and ring.
 */
public final class BoundaryHowLongTest {
    private static final Sentences T = new Sentences("BoundaryHowLongTest");
    private static final int OUTSIDE = JobSpread.OUTSIDE;
    private static final int NONE = JobSpread.NONE;
    private static final int FLOW = 0;
    private static final int EXCHANGE = 1;
    private static final int ROTOR = 2;
    private static final int FARTHEST = 1000;

    public static void main(String[] args) {
        until();
        ring();
        T.end(17, 18);
    }

    private static JobSpread net(String edges, int[] speeds, int[] jobs) {
        JobSpread x = Nets.of(edges);
        for (int i = 0; i < 8; i++) {
            x.node(i, speeds[i], jobs[i]);
        }
        return x;
    }

    private static JobSpread behind(Sentences.Start start, int rule, int rounds) {
        JobSpread x = start.make();
        for (int left = rounds; left > 0; left -= 50) {
            x.run(rule, Math.min(left, 50));
        }
        return x;
    }

    private static JobSpread twoNodes(int jobs) {
        JobSpread x = Nets.of("ab0");
        x.node(0, 1, jobs);
        return x;
    }

    /** A long way from a to h. */
    private static JobSpread path() {
        JobSpread x = Nets.of("ab0bc1cd0de1ef0fg1gh0");
        x.node(0, 1, 999);
        return x;
    }

    // ---- promise 17

    private static void until() {
        untilByThreeRules();
        untilBounds();
        untilBehindNoRound();
        untilIsNoMoreThan();
        untilTwoHundredRounds();
        untilOneNodeBelowZero();
        untilChangesNothing();
    }

    private static void untilByThreeRules() {
        T.begin(17, "by a RULE from now on");
        T.due(twoNodes(16), "until(0, 14)", 1);
        T.due(twoNodes(16), "until(1, 8)", 1);
        T.due(twoNodes(16), "until(2, 8)", 1);
        T.refused(Nets::busy, "until(-1, 0)", OUTSIDE);
        T.refused(Nets::busy, "until(3, 0)", OUTSIDE);
        for (int far : Sentences.FAR) {
            T.due(Nets.busy(), "until(" + far + ", 0)", OUTSIDE);
        }
    }

    private static void untilBounds() {
        T.begin(17, "behind which UNEVEN is no more than d (0 to 99); NONE: it is more behind each of them. Nothing"
                + " changes. OUTSIDE: both.");
        T.due(new JobSpread(), "until(0, 0)", 0);
        T.due(twoNodes(99), "until(0, 99)", 0);
        T.due(twoNodes(100), "until(0, 99)", 1);
        for (int rule = 0; rule < 3; rule++) {
            T.refused(Nets::busy, "until(" + rule + ", -1)", OUTSIDE);
            T.refused(Nets::busy, "until(" + rule + ", 100)", OUTSIDE);
        }
        T.refused(Nets::busy, "until(-1, -1)", OUTSIDE);
        T.refused(Nets::busy, "until(3, 100)", OUTSIDE);
        for (int far : Sentences.FAR) {
            T.due(Nets.busy(), "until(0, " + far + ")", OUTSIDE);
        }
    }

    private static void untilBehindNoRound() {
        T.begin(17, "The fewest ROUNDS, 0 to 200");
        for (int rule = 0; rule < 3; rule++) {
            T.due(new JobSpread(), "until(" + rule + ", 0)", 0);
            T.due(twoNodes(5), "until(" + rule + ", 5)", 0);
            JobSpread alone = new JobSpread();
            alone.node(7, 1, 1);
            T.due(alone, "until(" + rule + ", 1)", 0);
            T.due(alone, "until(" + rule + ", 0)", NONE);
        }
    }

    private static void untilIsNoMoreThan() {
        T.begin(17, "UNEVEN is no more than d");
        JobSpread x = new JobSpread();
        for (int i = 0; i < 8; i++) {
            x.node(i, 4, 8);
        }
        int[] jobs = {11, 12, 13, 15, 16, 17};
        int[] least = {1, 1, 2, 2, 2, 3};
        for (int i = 0; i < jobs.length; i++) {
            x.node(3, 4, jobs[i]);
            T.due(x, "until(0, " + (least[i] - 1) + ")", NONE);
            T.due(x, "until(0, " + least[i] + ")", 0);
        }
    }

    private static int roundsUntil(Sentences.Start start, int rule, int d) {
        for (int rounds = 0; rounds < FARTHEST; rounds++) {
            JobSpread x = behind(start, rule, rounds);
            if (x.uneven(0) <= d * x.uneven(1)) {
                return rounds;
            }
        }
        return NONE;
    }

    private static void reachedBehindTwoHundred(Sentences.Start start, int rule, int d) {
        String call = "until(" + rule + ", " + d + ")";
        int rounds = roundsUntil(start, rule, d);
        T.holds(call + " takes more than 200 rounds from the start: " + rounds, rounds > 200);
        JobSpread x = behind(start, rule, rounds - 201);
        T.due(x, call, NONE);
        x.run(rule, 1);
        T.due(x, call, 200);
        x.run(rule, 1);
        T.due(x, call, 199);
    }

    // Nets that take so long were looked for by chance.
    private static void untilTwoHundredRounds() {
        T.begin(17, "NONE: it is more behind each of them.");
        T.due(twoNodes(10), "until(0, 4)", NONE);
        reachedBehindTwoHundred(BoundaryHowLongTest::path, FLOW, 27);
        reachedBehindTwoHundred(() -> net("ga3bg3cb1hc2fh3ef1de1", new int[] {3, 4, 1, 4, 4, 4, 4, 1},
                new int[] {702, 947, 539, 0, 830, 124, 0, 0}), EXCHANGE, 4);
        reachedBehindTwoHundred(() -> net("ab0ga3dg3fd0hf3ch1ec3", new int[] {1, 1, 2, 4, 1, 4, 3, 1},
                new int[] {0, 0, 765, 0, 0, 0, 196, 0}), ROTOR, 98);
    }

    private static void untilOneNodeBelowZero() {
        T.begin(17, "from now on, behind which UNEVEN is no more than d");
        JobSpread x = Nets.withOneBelowZero();
        T.due(x, "until(2, 1)", 1);
        T.due(x, "until(2, 2)", 0);
        T.due(x, "until(0, 1)", 3);
        T.due(x, "until(1, 1)", 1);
    }

    private static void untilChangesNothing() {
        T.begin(17, "Nothing changes.");
        for (int rule = 0; rule < 3; rule++) {
            T.changesNothing(Nets::busy, "until(" + rule + ", 0)");
            T.changesNothing(Nets::full, "until(" + rule + ", 99)");
        }
    }

    // ---- promise 18

    private static void ring() {
        ringByThreeRules();
        ringWhat();
        ringOfTheLeast();
        ringOfRoundsByColours();
        ringOfRotorsLeftOver();
        ringOfEachRotor();
        ringOfEachCarry();
        ringOfNone();
        ringThreeHundredRounds();
        ringOfThreeHundredAlone();
        ringChangesNothing();
    }

    private static void ring(JobSpread x, int rule, int a, int p) {
        T.due(x, "ring(" + rule + ", 0)", a);
        T.due(x, "ring(" + rule + ", 1)", p);
    }

    private static void ringByThreeRules() {
        T.begin(18, "From now on by a RULE");
        ring(twoNodes(10), FLOW, 9, 1);
        ring(twoNodes(10), EXCHANGE, 1, 1);
        ring(twoNodes(10), ROTOR, 1, 2);
        T.refused(Nets::busy, "ring(-1, 0)", OUTSIDE);
        T.refused(Nets::busy, "ring(3, 0)", OUTSIDE);
        for (int far : Sentences.FAR) {
            T.due(Nets.busy(), "ring(" + far + ", 0)", OUTSIDE);
        }
    }

    private static void ringWhat() {
        T.begin(18, "a (what = 0), p (1); NONE: there are none such. Nothing changes. OUTSIDE: both.");
        for (int rule = 0; rule < 3; rule++) {
            T.refused(Nets::busy, "ring(" + rule + ", -1)", OUTSIDE);
            T.refused(Nets::busy, "ring(" + rule + ", 2)", OUTSIDE);
        }
        T.refused(Nets::busy, "ring(-1, -1)", OUTSIDE);
        T.refused(Nets::busy, "ring(3, 2)", OUTSIDE);
        for (int far : Sentences.FAR) {
            T.due(Nets.busy(), "ring(0, " + far + ")", OUTSIDE);
        }
        // No ring closes, but another number is not as told.
        T.due(path(), "ring(0, 2)", OUTSIDE);
        T.due(path(), "ring(3, 0)", OUTSIDE);
    }

    private static void ringOfTheLeast() {
        T.begin(18, "the least p, 1 or more, and for it the least a, 0 or more");
        for (int rule = 0; rule < 3; rule++) {
            ring(new JobSpread(), rule, 0, 1);
            JobSpread alone = new JobSpread();
            alone.node(7, 4, 999);
            ring(alone, rule, 0, 1);
        }
        JobSpread x = twoNodes(10);
        x.run(FLOW, 8);
        ring(x, FLOW, 1, 1);
        x.run(FLOW, 1);
        ring(x, FLOW, 0, 1);
        x.run(FLOW, 1);
        ring(x, FLOW, 0, 1);
    }

    private static void ringOfRoundsByColours() {
        T.begin(18, "ROUNDS left over by COLOURS are");
        for (int colour = 0; colour <= 3; colour++) {
            for (int rule = 0; rule < 3; rule++) {
                JobSpread x = Nets.of("ab" + colour);
                ring(x, rule, 0, colour + 1);
                x.run(rule, 50);
                ring(x, rule, 0, colour + 1);
            }
        }
    }

    private static void ringOfRotorsLeftOver() {
        T.begin(18, "JOBS, ROTORS (left over by SLOTS), CARRIES");
        JobSpread x = Nets.of("ab0ac0ad0");
        x.node(0, 1, 3);
        x.run(ROTOR, 1);
        x.node(1, 1, 0);
        x.node(2, 1, 0);
        x.node(3, 1, 0);
        x.edge(0, 2, -1);
        x.edge(0, 3, -1);
        x.node(0, 1, 4);
        // Its rotor is 3, then 1 of 2 slots: left over they are alike. It deals evenly from there on: 4 and 0,
        // 2 and 2 for ever.
        ring(x, ROTOR, 1, 1);
        x.node(0, 1, 2);
        x.node(1, 1, 2);
        ring(x, ROTOR, 0, 1);
    }

    // The job stays where it is while the rotor goes on: nothing else tells these two times apart.
    private static void ringOfEachRotor() {
        T.begin(18, "ALL IS ALIKE at two times: JOBS, ROTORS");
        for (int node = 0; node < 8; node++) {
            int other = 7 - node;
            JobSpread x = new JobSpread();
            x.edge(node, other, 0);
            x.node(node, 1, 1);
            x.run(ROTOR, 1);
            x.node(other, 1, 0);
            x.node(node, 1, 1);
            T.due(x, "told(" + node + ", 2)", 1);
            ring(x, ROTOR, 2, 4);
        }
    }

    // The job stands still while the carry grows to 8, goes, and stands still until it falls to -8.
    private static void ringOfEachCarry() {
        T.begin(18, "CARRIES, and ROUNDS left over by COLOURS are");
        for (int a = 0; a < 8; a++) {
            for (int b = a + 1; b < 8; b++) {
                JobSpread x = new JobSpread();
                x.edge(a, b, 0);
                x.node(b, 1, 1);
                ring(x, FLOW, 0, 16);
            }
        }
    }

    private static void ringOfNone() {
        T.begin(18, "NONE: there are none such.");
        int[] walked = walkedRing(BoundaryHowLongTest::path, FLOW);
        T.holds("the ring of a path is far: " + walked[0] + " " + walked[1], walked[0] > 300);
        ring(path(), FLOW, NONE, NONE);
        // Wider than 300, so that none closes on the ring itself either.
        Sentences.Start wide = () -> net("fb0gh1ec0db1ba2de2", new int[] {3, 2, 2, 2, 1, 3, 1, 2},
                new int[] {0, 0, 0, 1, 1, 1, 0, 0});
        walked = walkedRing(wide, FLOW);
        T.holds("the ring is wide: " + walked[0] + " " + walked[1], walked[0] < 300 && walked[1] > 300);
        ring(wide.make(), FLOW, NONE, NONE);
        ring(behind(wide, FLOW, walked[0]), FLOW, NONE, NONE);
        ring(behind(wide, FLOW, walked[0] + 300), FLOW, NONE, NONE);
    }

    /** What ALL IS ALIKE looks at, as one text. */
    private static String all(JobSpread x) {
        StringBuilder text = new StringBuilder(Nets.jobs(x));
        for (int a = 0; a < 8; a++) {
            text.append(' ').append(x.told(a, 2));
            for (int b = a + 1; b < 8; b++) {
                text.append(' ').append(x.carry(a, b));
            }
        }
        return text.append(' ').append(x.count(2) % x.count(5)).toString();
    }

    // The first time that a state comes again closes the ring: p is the way since, a the way until.
    private static int[] walkedRing(Sentences.Start start, int rule) {
        Map<String, Integer> met = new HashMap<>();
        for (int rounds = 0; rounds <= FARTHEST; rounds++) {
            Integer before = met.putIfAbsent(all(behind(start, rule, rounds)), rounds);
            if (before != null) {
                return new int[] {before, rounds - before};
            }
        }
        return new int[] {NONE, NONE};
    }

    private static void closedBehindThreeHundred(Sentences.Start start, int rule) {
        int[] walked = walkedRing(start, rule);
        int a = walked[0];
        int p = walked[1];
        T.holds("a ring by rule " + rule + " closes late: " + a + " " + p, a > 1 && p > 0 && a + p > 300);
        int tooEarly = a + p - 301;
        JobSpread x = behind(start, rule, tooEarly);
        ring(x, rule, NONE, NONE);
        x.run(rule, 1);
        ring(x, rule, 300 - p, p);
        x.run(rule, 1);
        ring(x, rule, 299 - p, p);
    }

    private static void ringThreeHundredRounds() {
        T.begin(18, "a and p together being 300 at most");
        closedBehindThreeHundred(BoundaryHowLongTest::path, FLOW);
        closedBehindThreeHundred(() -> net("hf3ch2dc0ad0ea1ge3bg1", new int[] {1, 4, 1, 1, 1, 4, 3, 1},
                new int[] {60, 0, 151, 110, 0, 756, 0, 970}), EXCHANGE);
        closedBehindThreeHundred(() -> net("cf1hc2eh1ae2ga0dg0bd2", new int[] {1, 4, 2, 1, 4, 1, 4, 2},
                new int[] {0, 844, 0, 977, 655, 0, 367, 0}), ROTOR);
    }

    private static void ringOfThreeHundredAlone() {
        T.begin(18, "such that ALL IS ALIKE behind a and behind a and p ROUNDS");
        Sentences.Start start = () -> net("dh3bf0ef1be0de2", new int[] {1, 2, 1, 2, 3, 1, 1, 2},
                new int[] {0, 0, 0, 1, 0, 0, 0, 0});
        int[] walked = walkedRing(start, FLOW);
        T.holds("it is walked round in 300: " + walked[0] + " " + walked[1], walked[0] == 0 && walked[1] == 300);
        ring(start.make(), FLOW, 0, 300);
        ring(behind(start, FLOW, 299), FLOW, 0, 300);
    }

    private static void ringChangesNothing() {
        T.begin(18, "Nothing changes. OUTSIDE: both.");
        for (int rule = 0; rule < 3; rule++) {
            T.changesNothing(Nets::busy, "ring(" + rule + ", 0)");
            T.changesNothing(Nets::full, "ring(" + rule + ", 1)");
        }
        T.changesNothing(BoundaryHowLongTest::path, "ring(0, 0)");
    }
}
