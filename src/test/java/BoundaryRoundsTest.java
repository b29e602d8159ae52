/** The edges of promises 11 and 12: run, with its three rules, and reset. */
public final class BoundaryRoundsTest {
    private static final Sentences T = new Sentences("BoundaryRoundsTest");
    private static final int OUTSIDE = JobSpread.OUTSIDE;

    public static void main(String[] args) {
        run();
        flow();
        exchange();
        rotor();
        moved();
        reset();
        T.end(11, 12);
    }

    private static JobSpread net(String edges, int... jobs) {
        JobSpread x = Nets.of(edges);
        for (int i = 0; i < jobs.length; i++) {
            x.node(i, 1, jobs[i]);
        }
        return x;
    }

    // ---- promise 11: the call

    private static void run() {
        runOneToFiftyRounds();
        runByThreeRules();
        runRefusesBoth();
        runOfNothing();
        runAddsToRounds();
    }

    private static void runOneToFiftyRounds() {
        T.begin(11, "n ROUNDS (1 to 50) by a RULE");
        for (int rule = 0; rule < 3; rule++) {
            JobSpread x = net("ab0", 10);
            T.holds("run(" + rule + ", 1) is taken", x.run(rule, 1) >= 0);
            T.due(x, "count(2)", 1);
            T.holds("run(" + rule + ", 50) is taken", x.run(rule, 50) >= 0);
            T.due(x, "count(2)", 51);
            T.refused(Nets::busy, "run(" + rule + ", 0)", OUTSIDE);
            T.refused(Nets::busy, "run(" + rule + ", -1)", OUTSIDE);
            T.refused(Nets::busy, "run(" + rule + ", 51)", OUTSIDE);
        }
        for (int far : Sentences.FAR) {
            T.due(Nets.busy(), "run(0, " + far + ")", OUTSIDE);
        }
    }

    private static void runByThreeRules() {
        T.begin(11, "A ROUND goes by one of three RULES");
        T.due(net("ab0", 16), "run(0, 1)", 2);
        T.due(net("ab0", 16), "run(1, 1)", 8);
        T.due(net("ab0", 17), "run(2, 1)", 9);
        T.refused(Nets::busy, "run(-1, 1)", OUTSIDE);
        T.refused(Nets::busy, "run(3, 1)", OUTSIDE);
        for (int far : Sentences.FAR) {
            T.due(Nets.busy(), "run(" + far + ", 1)", OUTSIDE);
        }
    }

    private static void runRefusesBoth() {
        T.begin(11, "how many JOBS MOVED in them all. OUTSIDE: both.");
        T.refused(Nets::busy, "run(-1, 0)", OUTSIDE);
        T.refused(Nets::busy, "run(3, 51)", OUTSIDE);
    }

    private static void runOfNothing() {
        T.begin(11, "how many JOBS MOVED in them all.");
        for (int rule = 0; rule < 3; rule++) {
            T.due(new JobSpread(), "run(" + rule + ", 50)", 0);
            T.due(Nets.of(Nets.TWELVE), "run(" + rule + ", 50)", 0);
            JobSpread x = net("", 5, 0, 999);
            T.due(x, "run(" + rule + ", 50)", 0);
            T.jobs(x, "5 0 999 0 0 0 0 0");
        }
    }

    private static void runAddsToRounds() {
        T.begin(11, "ROUNDS are counted from 0 on.");
        JobSpread x = net("ab0", 10);
        for (int i = 1; i <= 12; i++) {
            x.run(i % 3, 50);
            T.due(x, "count(2)", 50 * i);
        }
    }

    // ---- promise 11: FLOW

    private static void flow() {
        flowByMeasure();
        flowIsCutTowardsZero();
        flowCarriesOn();
        flowAllAtOnce();
        flowBelowZero();
    }

    private static void flowByMeasure() {
        T.begin(11, "RULE 0, FLOW: MEASURE is 4 times (1 and the most EDGES that any NODE has).");
        T.due(net("ab0", 7), "run(0, 1)", 0);
        T.due(net("ab0", 8), "run(0, 1)", 1);
        T.due(net("ab0bc0", 11), "run(0, 1)", 0);
        T.due(net("ab0bc0", 12), "run(0, 1)", 1);
        T.due(net(Nets.star(0), 31), "run(0, 1)", 0);
        JobSpread x = net(Nets.star(0), 32);
        T.due(x, "run(0, 1)", 7);
        T.jobs(x, "25 1 1 1 1 1 1 1");
        // The most edges are at c, which has nothing to do with a and b.
        T.due(net("ab0cd0ce0cf0", 15), "run(0, 1)", 0);
        T.due(net("ab0cd0ce0cf0", 16), "run(0, 1)", 1);
    }

    private static void flowIsCutTowardsZero() {
        T.begin(11, "GO is WANT by MEASURE, cut towards 0; its CARRY is then WANT less MEASURE times GO.");
        int[] jobs = {0, 1, 7, 8, 9, 15, 16};
        int[] go = {0, 0, 0, 1, 1, 1, 2};
        int[] carry = {0, 1, 7, 0, 1, 7, 0};
        for (int i = 0; i < jobs.length; i++) {
            JobSpread x = net("ab0", jobs[i]);
            T.due(x, "run(0, 1)", go[i]);
            T.due(x, "jobs(0)", 10000 + jobs[i] - go[i]);
            T.due(x, "jobs(1)", 10000 + go[i]);
            T.due(x, "carry(0, 1)", 10000 + carry[i]);
            JobSpread y = net("ab0", 0, jobs[i]);
            T.due(y, "run(0, 1)", go[i]);
            T.due(y, "jobs(0)", 10000 + go[i]);
            T.due(y, "jobs(1)", 10000 + jobs[i] - go[i]);
            T.due(y, "carry(0, 1)", 10000 - carry[i]);
        }
    }

    private static void flowCarriesOn() {
        T.begin(11, "WANT is its CARRY, and JOBS of a times SPEED of b, less JOBS of b times SPEED of a");
        JobSpread x = net("ab0", 7);
        x.run(0, 1);
        x.node(0, 1, 0);
        T.due(x, "run(0, 1)", 0);
        T.due(x, "carry(0, 1)", 10007);
        x.node(0, 1, 1);
        T.due(x, "run(0, 1)", 1);
        T.due(x, "carry(0, 1)", 10000);
        JobSpread y = net("ab0");
        y.node(0, 4, 1);
        y.node(1, 4, 3);
        T.due(y, "run(0, 1)", 1);
        T.due(y, "carry(0, 1)", 10000);
        T.jobs(y, "2 2 0 0 0 0 0 0");
    }

    private static void flowAllAtOnce() {
        T.begin(11, "All EDGES by JOBS as they are ahead of the ROUND");
        JobSpread x = net("ab0bc0", 144);
        T.due(x, "run(0, 1)", 12);
        T.jobs(x, "132 12 0 0 0 0 0 0");
        T.due(x, "carry(1, 2)", 10000);
        T.due(x, "run(0, 1)", 11);
        T.jobs(x, "122 21 1 0 0 0 0 0");
        T.due(x, "carry(1, 2)", 10000);
    }

    private static void flowBelowZero() {
        T.begin(11, "which can come to be below 0");
        JobSpread x = Nets.withOneBelowZero();
        T.jobs(x, "-1 1 1 0 0 0 0 0");
        T.due(x, "count(6)", 1);
        T.due(x, "carry(0, 1)", 10000);
        // -1 times 4 less 1 times 1.
        T.due(x, "run(0, 1)", 0);
        T.due(x, "carry(0, 1)", 9995);
        T.due(x, "run(0, 2)", 2);
        T.jobs(x, "1 0 0 0 0 0 0 0");
        T.due(x, "carry(0, 2)", 9997);
    }

    // ---- promise 11: EXCHANGE

    private static void exchange() {
        exchangeColoursComeRoundAgain();
        exchangeWithoutEdges();
        exchangeInOrder();
        exchangeCutsDown();
        exchangeOneLeftOver();
        exchangeBelowZero();
    }

    private static void exchangeColoursComeRoundAgain() {
        T.begin(11, "which COLOUR: how many ROUNDS there were before, left over by COLOURS, which is 1 more than the"
                + " greatest COLOUR of any EDGE");
        for (int colour = 0; colour <= 3; colour++) {
            JobSpread x = net("ab" + colour);
            for (int round = 0; round < 12; round++) {
                x.node(0, 1, 8);
                x.node(1, 1, 0);
                T.due(x, "run(1, 1)", round % (colour + 1) == colour ? 4 : 0);
            }
        }
        JobSpread y = net("ab0cd3", 8, 0, 6);
        T.due(y, "run(1, 1)", 4);
        T.due(y, "run(1, 2)", 0);
        T.due(y, "run(1, 1)", 3);
        y.node(0, 1, 2);
        T.due(y, "run(1, 1)", 1);
        // Behind 5 rounds the greatest colour goes: all that is left is of the only colour.
        y.edge(2, 3, -1);
        y.node(0, 1, 5);
        T.due(y, "run(1, 1)", 1);
    }

    private static void exchangeWithoutEdges() {
        T.begin(11, "(1, if there is none)");
        JobSpread x = net("", 8);
        T.due(x, "count(5)", 1);
        T.due(x, "run(1, 3)", 0);
        T.jobs(x, "8 0 0 0 0 0 0 0");
        x.edge(0, 1, 3);
        T.due(x, "run(1, 1)", 4);
    }

    private static void exchangeInOrder() {
        T.begin(11, "one after the other, that of the lesser a first, of such that of the lesser b");
        JobSpread x = net("gh0fg0ef0de0cd0bc0ab0", 128);
        T.due(x, "run(1, 1)", 64 + 32 + 16 + 8 + 4 + 2 + 1);
        T.jobs(x, "64 32 16 8 4 2 1 1");
        JobSpread y = net("ha0ga0fa0ea0da0ca0ba0", 128);
        T.due(y, "run(1, 1)", 64 + 32 + 16 + 8 + 4 + 2 + 1);
        T.jobs(y, "1 64 32 16 8 4 2 1");
    }

    private static void exchanged(int[] speeds, int[] jobs, String want) {
        JobSpread x = Nets.of("ab0");
        x.node(0, speeds[0], jobs[0]);
        x.node(1, speeds[1], jobs[1]);
        x.run(1, 1);
        T.jobs(x, want + " 0 0 0 0 0 0");
    }

    private static void exchangeCutsDown() {
        T.begin(11, "Of all JOBS of a and b together a gets SPEED of a times these by both SPEEDS together, cut down, b"
                + " likewise");
        exchanged(new int[] {1, 4}, new int[] {0, 0}, "0 0");
        exchanged(new int[] {1, 4}, new int[] {4, 0}, "1 3");
        exchanged(new int[] {1, 4}, new int[] {5, 0}, "1 4");
        exchanged(new int[] {1, 4}, new int[] {0, 4}, "0 4");
        exchanged(new int[] {4, 1}, new int[] {0, 999}, "799 200");
        exchanged(new int[] {4, 1}, new int[] {999, 999}, "1599 399");
    }

    private static void exchangeOneLeftOver() {
        T.begin(11, "if one is left over, that one of both gets it that had more before (a, if both had as many)");
        exchanged(new int[] {1, 1}, new int[] {1, 0}, "1 0");
        exchanged(new int[] {1, 1}, new int[] {0, 1}, "0 1");
        exchanged(new int[] {1, 1}, new int[] {2, 1}, "2 1");
        exchanged(new int[] {1, 1}, new int[] {1, 2}, "1 2");
        exchanged(new int[] {1, 1}, new int[] {2, 0}, "1 1");
        exchanged(new int[] {1, 2}, new int[] {1, 1}, "1 1");
        exchanged(new int[] {2, 1}, new int[] {1, 1}, "2 0");
        exchanged(new int[] {2, 1}, new int[] {0, 2}, "1 1");
        // b has more jobs, though a has more for its speed.
        exchanged(new int[] {1, 4}, new int[] {3, 5}, "1 7");
    }

    private static void exchangeBelowZero() {
        T.begin(11, "cut down, b likewise; if one is left over");
        JobSpread x = Nets.withJobsBelowZero();
        x.edge(0, 2, -1);
        x.edge(0, 3, -1);
        x.node(1, 4, 0);
        // -2 are parted as -1 and -2: one is left over for b, then, both having -1, for a.
        T.due(x, "run(1, 1)", 1);
        T.jobs(x, "-1 -1 1 1 0 0 0 0");
        T.due(x, "run(1, 1)", 1);
        T.jobs(x, "0 -2 1 1 0 0 0 0");
        T.due(x, "count(6)", 1);
    }

    // ---- promise 11: ROTOR

    private static void rotor() {
        rotorDealsJobsAboveZero();
        rotorDealsByFewAndManySlots();
        rotorDealsLessAsManyAndMoreThanSlots();
        rotorGoesOnBehindTheLast();
        rotorIsLeftOverBySlots();
        rotorIsLeftOverAheadOfTheRound();
        rotorAllAtOnce();
        rotorBelowZero();
    }

    private static void rotorDealsJobsAboveZero() {
        T.begin(11, "RULE 2, ROTOR: each NODE with JOBS above 0 deals all of these");
        JobSpread x = net("ab0", 0);
        T.due(x, "run(2, 1)", 0);
        T.due(x, "told(0, 2)", 0);
        JobSpread y = net("ab0", 1);
        T.due(y, "run(2, 1)", 1);
        T.jobs(y, "0 1 0 0 0 0 0 0");
        T.due(y, "told(0, 2)", 1);
        // a has none now and does not deal, so its rotor stays.
        T.due(y, "run(2, 1)", 1);
        T.due(y, "told(0, 2)", 1);
        T.due(y, "told(1, 2)", 1);
    }

    private static void rotorDealsByFewAndManySlots() {
        T.begin(11, "A NODE has SLOTS, numbered from 0 on: its NEIGHBOURS (to which EDGES lead from it), the lesser"
                + " ones first, then itself");
        JobSpread alone = net("", 3);
        T.due(alone, "run(2, 1)", 0);
        T.jobs(alone, "3 0 0 0 0 0 0 0");
        T.due(alone, "told(0, 2)", 0);
        String[] one = {"1 0 0 0 0 0 0 0", "0 1 0 0 0 0 0 0", "0 0 1 0 0 0 0 0", "0 0 0 1 0 0 0 0",
            "0 0 0 0 1 0 0 0", "0 0 0 0 0 1 0 0", "0 0 0 0 0 0 1 0", "0 0 0 0 0 0 0 1"};
        for (int node = 0; node < 8; node++) {
            JobSpread x = Nets.of(Nets.star(node));
            for (int slot = 0; slot < 8; slot++) {
                int gets = slot == 7 ? node : slot < node ? slot : slot + 1;
                x.node(node, 1, 1);
                T.due(x, "run(2, 1)", slot == 7 ? 0 : 1);
                T.jobs(x, one[gets]);
                x.node(gets, 1, 0);
            }
            T.due(x, "told(" + node + ", 2)", 0);
        }
    }

    private static void dealt(int jobs, String want, int rotor) {
        JobSpread x = net("ab0ac0", jobs);
        x.run(2, 1);
        T.jobs(x, want + " 0 0 0 0 0");
        T.due(x, "told(0, 2)", rotor);
    }

    private static void rotorDealsLessAsManyAndMoreThanSlots() {
        T.begin(11, "each of its SLOTS gets as many as JOBS by SLOTS are, cut; what is left over goes, one each, to"
                + " the SLOTS from the ROTOR on");
        dealt(1, "0 1 0", 1);
        dealt(2, "0 1 1", 2);
        dealt(3, "1 1 1", 0);
        dealt(4, "1 2 1", 1);
        dealt(5, "1 2 2", 2);
        dealt(6, "2 2 2", 0);
        dealt(998, "332 333 333", 2);
        dealt(999, "333 333 333", 0);
    }

    /** The rotor of a is at its last slot, which is itself; no jobs are there. */
    private static JobSpread atLastSlot() {
        JobSpread x = net("ab0ac0", 2);
        x.run(2, 1);
        x.node(1, 1, 0);
        x.node(2, 1, 0);
        return x;
    }

    private static void dealtFromLast(int jobs, String want, int rotor) {
        JobSpread x = atLastSlot();
        T.due(x, "told(0, 2)", 2);
        x.node(0, 1, jobs);
        x.run(2, 1);
        T.jobs(x, want + " 0 0 0 0 0");
        T.due(x, "told(0, 2)", rotor);
    }

    private static void rotorGoesOnBehindTheLast() {
        T.begin(11, "behind the last one SLOT 0 again; the ROTOR goes on so many SLOTS");
        dealtFromLast(1, "1 0 0", 0);
        dealtFromLast(2, "1 1 0", 1);
        dealtFromLast(3, "1 1 1", 2);
        dealtFromLast(4, "2 1 1", 0);
        dealtFromLast(5, "2 2 1", 1);
    }

    private static void rotorIsLeftOverBySlots() {
        T.begin(11, "(it is left over by SLOTS then; EDGES that are laid, or go, do not change it)");
        JobSpread x = net("ab0ac0ad0", 3);
        x.run(2, 1);
        for (int i = 1; i < 4; i++) {
            x.node(i, 1, 0);
        }
        T.due(x, "told(0, 2)", 3);
        x.edge(0, 2, -1);
        x.edge(0, 3, -1);
        x.image(0);
        // 3 left over by 2 slots: the job stays at a, and the rotor is at slot 0 then.
        x.node(0, 1, 1);
        T.due(x, "run(2, 1)", 0);
        T.same("rotors", Probe.ROTORS.of(x), "0 0 0 0 0 0 0 0 ");
        x.restore(0);
        T.due(x, "run(2, 1)", 0);
        T.same("rotors where nothing was dealt", Probe.ROTORS.of(x), "3 0 0 0 0 0 0 0 ");
    }

    // The rotor of a is 7, of 8 slots; then some of its edges go, the greatest first.
    private static void rotorIsLeftOverAheadOfTheRound() {
        T.begin(11, "to the SLOTS from the ROTOR on (left over by SLOTS)");
        for (int slots = 1; slots <= 8; slots++) {
            JobSpread x = net(Nets.star(0), 7);
            x.run(2, 1);
            for (int other = 1; other < 8; other++) {
                x.node(other, 1, 0);
                x.edge(0, other, other < slots ? 0 : -1);
            }
            int slot = 7 % slots;
            int gets = slot == slots - 1 ? 0 : slot + 1;
            T.due(x, "told(0, 2)", slot);
            x.node(0, 1, 1);
            T.due(x, "run(2, 1)", gets == 0 ? 0 : 1);
            T.due(x, "jobs(" + gets + ")", 10001);
            T.due(x, "told(0, 2)", (slot + 1) % slots);
        }
    }

    private static void rotorAllAtOnce() {
        T.begin(11, "all at once by what they are ahead of the ROUND");
        JobSpread x = net("ab0bc0", 2);
        T.due(x, "run(2, 1)", 1);
        T.jobs(x, "1 1 0 0 0 0 0 0");
        T.due(x, "run(2, 1)", 2);
        T.jobs(x, "1 1 0 0 0 0 0 0");
        T.due(x, "told(1, 2)", 1);
    }

    private static void rotorBelowZero() {
        T.begin(11, "JOBS below 0 stay.");
        JobSpread x = Nets.withOneBelowZero();
        x.node(1, 4, 0);
        x.node(2, 4, 0);
        T.due(x, "run(2, 50)", 0);
        T.jobs(x, "-1 0 0 0 0 0 0 0");
        T.due(x, "told(0, 2)", 0);
        x.node(1, 4, 1);
        T.due(x, "run(2, 1)", 1);
        T.jobs(x, "0 0 0 0 0 0 0 0");
        T.due(x, "told(0, 2)", 0);
    }

    // ---- promise 11: MOVED

    private static void moved() {
        T.begin(11, "MOVED in a ROUND: of all EDGES how many JOBS go (FLOW, EXCHANGE: by how many a has more or"
                + " fewer by it; ROTOR: in both directions, each counted)");
        T.due(net("ab0cd0", 8, 0, 0, 16), "run(0, 1)", 3);
        T.due(net("ab0cd0", 8, 0, 0, 16), "run(1, 1)", 12);
        JobSpread x = net("ab0", 1, 1);
        T.due(x, "run(2, 1)", 2);
        T.jobs(x, "1 1 0 0 0 0 0 0");
        T.due(net("ab0", 5, 5), "run(1, 50)", 0);
        T.due(net("ab0", 3, 3), "run(2, 2)", 4 + 2);
        // b gives one on of the two that it gets.
        T.due(net("ab0bc0", 4), "run(1, 1)", 2 + 1);
    }

    // ---- promise 12

    private static void reset() {
        resetTellsRounds();
        resetOfAllNodesAndEdges();
        resetOfEachCarry();
        resetOfRotorsWithoutEdges();
        resetLeavesTheRest();
    }

    private static void resetTellsRounds() {
        T.begin(12, "ROUNDS are 0: how many ROUNDS there were.");
        T.due(new JobSpread(), "reset()", 0);
        JobSpread x = net("ab0", 10);
        x.run(0, 1);
        T.due(x, "reset()", 1);
        T.due(x, "reset()", 0);
        for (int i = 0; i < 400; i++) {
            x.run(i % 3, 50);
        }
        T.due(x, "reset()", 20000);
        T.due(x, "count(2)", 0);
    }

    private static void resetOfAllNodesAndEdges() {
        T.begin(12, "ROTORS of all NODES, CARRIES of all EDGES");
        JobSpread x = net(Nets.TWELVE, 5, 6, 7, 8, 10, 11, 13, 15);
        T.due(x, "run(0, 1)", 0);
        x.run(2, 1);
        T.due(x, "carry(0, 7)", 9990);
        T.due(x, "carry(1, 6)", 9993);
        for (int i = 0; i < 8; i++) {
            T.holds("the rotor of node " + i + " has gone on", x.told(i, 2) > 0);
        }
        T.due(x, "reset()", 2);
        for (int at = 0; at < 36; at += 3) {
            int a = Nets.TWELVE.charAt(at) - 'a';
            int b = Nets.TWELVE.charAt(at + 1) - 'a';
            T.due(x, "carry(" + a + ", " + b + ")", 10000);
        }
        T.same("rotors", Probe.ROTORS.of(x), "0 0 0 0 0 0 0 0 ");
    }

    private static void resetOfEachCarry() {
        T.begin(12, "CARRIES of all EDGES");
        for (int a = 0; a < 8; a++) {
            for (int b = a + 1; b < 8; b++) {
                JobSpread x = new JobSpread();
                x.edge(a, b, 0);
                x.node(a, 1, 5);
                x.run(0, 1);
                T.due(x, "carry(" + a + ", " + b + ")", 10005);
                T.due(x, "reset()", 1);
                T.due(x, "carry(" + a + ", " + b + ")", 10000);
            }
        }
    }

    // A rotor that is left over to 0 while edges are gone comes to be 0 indeed.
    private static void resetOfRotorsWithoutEdges() {
        T.begin(12, "ROTORS of all NODES");
        for (int node = 0; node < 8; node++) {
            JobSpread x = Nets.of(Nets.star(node));
            x.node(node, 1, 7);
            x.run(2, 1);
            x.net();
            T.due(x, "told(" + node + ", 2)", 0);
            T.due(x, "reset()", 1);
            T.same("rotors", Probe.ROTORS.of(x), "0 0 0 0 0 0 0 0 ");
        }
    }

    private static void resetLeavesTheRest() {
        T.begin(12, "ROTORS of all NODES, CARRIES of all EDGES, ROUNDS are 0");
        JobSpread x = Nets.busy();
        String jobs = Nets.jobs(x);
        x.reset();
        T.jobs(x, jobs);
        T.due(x, "count(0)", 4);
        T.due(x, "count(1)", 6);
        T.due(x, "count(7)", 3);
        T.due(x, "told(0, 0)", 3);
        T.due(x, "told(1, 12)", 3);
        T.same("the first image", Probe.FIRST_IMAGE.of(x),
                Probe.FIRST_IMAGE.of(Nets.busy()));
        T.due(x, "restore(1)", 1);
        T.holds("the second image has its rounds", x.count(2) > 0);
    }
}
