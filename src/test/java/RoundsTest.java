/** Promises 11 and 12: run by the three rules, reset. */
public final class RoundsTest {
    private static final Check CHECK = new Check("RoundsTest");
    private static final int FLOW = 0;
    private static final int EXCHANGE = 1;
    private static final int ROTOR = 2;

    public static void main(String[] args) {
        flowIsCutTowardsZero();
        flowLooksAtJobsAheadOfTheRound();
        flowWeighsBySpeeds();
        flowCarriesOnUnderAnotherMeasure();
        flowGoesBelowZero();
        exchangeGoesInOrder();
        exchangeGivesWhatIsLeftOver();
        exchangeCutsDownBelowZero();
        exchangeTakesColoursByTurns();
        rotorDealsBySlots();
        rotorWrapsAround();
        rotorIsLeftOverWhenDealing();
        rotorLeavesJobsBelowZero();
        rotorOfLonelyNode();
        oneRoundAfterTheOther();
        runRefuses();
        resetStartsAgain();
        CHECK.end();
    }

    private static void run(JobSpread x, int rule, int n, int moved, String jobs) {
        String call = "run(" + rule + ", " + n + ")";
        CHECK.due(call, x.run(rule, n), moved);
        CHECK.same("jobs behind " + call, Nets.jobs(x), jobs);
    }

    private static void flowIsCutTowardsZero() {
        JobSpread x = Nets.of("ba0");
        x.node(1, 1, 10);
        run(x, FLOW, 1, 1, "1 9 0 0 0 0 0 0");
        CHECK.due("carry(0, 1)", x.carry(0, 1), 9998);
        run(x, FLOW, 1, 1, "2 8 0 0 0 0 0 0");
        CHECK.due("carry(0, 1)", x.carry(0, 1), 9998);
        CHECK.due("count(2)", x.count(2), 2);
    }

    private static void flowLooksAtJobsAheadOfTheRound() {
        JobSpread x = Nets.of("ab0bc0");
        x.node(0, 1, 24);
        run(x, FLOW, 1, 2, "22 2 0 0 0 0 0 0");
        CHECK.due("carry(0, 1)", x.carry(0, 1), 10000);
        CHECK.due("carry(1, 2)", x.carry(1, 2), 10000);
        run(x, FLOW, 1, 1, "21 3 0 0 0 0 0 0");
        CHECK.due("carry(0, 1)", x.carry(0, 1), 10008);
        CHECK.due("carry(1, 2)", x.carry(1, 2), 10002);
    }

    private static void flowWeighsBySpeeds() {
        JobSpread x = Nets.of("ab0");
        x.node(0, 2, 10);
        x.node(1, 4, 1);
        run(x, FLOW, 1, 4, "6 5 0 0 0 0 0 0");
        CHECK.due("carry(0, 1)", x.carry(0, 1), 10006);
    }

    private static void flowCarriesOnUnderAnotherMeasure() {
        JobSpread x = Nets.of("ab0ac0ad0");
        x.node(0, 1, 15);
        run(x, FLOW, 1, 0, "15 0 0 0 0 0 0 0");
        CHECK.due("carry(0, 1)", x.carry(0, 1), 10015);
        x.edge(0, 2, -1);
        x.edge(0, 3, -1);
        run(x, FLOW, 1, 3, "12 3 0 0 0 0 0 0");
        CHECK.due("carry(0, 1)", x.carry(0, 1), 10006);
    }

    private static void flowGoesBelowZero() {
        JobSpread x = Nets.of("ab0ac0ad0");
        x.node(0, 1, 1);
        x.node(1, 4, 0);
        x.node(2, 4, 0);
        x.node(3, 4, 0);
        run(x, FLOW, 3, 0, "1 0 0 0 0 0 0 0");
        run(x, FLOW, 1, 3, "-2 1 1 1 0 0 0 0");
    }

    private static void exchangeGoesInOrder() {
        JobSpread x = Nets.of("bc0ab0");
        x.node(0, 1, 8);
        run(x, EXCHANGE, 1, 6, "4 2 2 0 0 0 0 0");
        JobSpread y = Nets.of("ac0ab0");
        y.node(0, 1, 8);
        run(y, EXCHANGE, 1, 6, "2 4 2 0 0 0 0 0");
        JobSpread z = Nets.of("bh0ch0ah0");
        z.node(7, 1, 16);
        run(z, EXCHANGE, 1, 14, "8 4 2 0 0 0 0 2");
    }

    private static void exchangeGivesWhatIsLeftOver() {
        exchanged(1, 1, 1, 4, 1, "2 3 0 0 0 0 0 0");
        exchanged(1, 4, 1, 1, 1, "3 2 0 0 0 0 0 0");
        exchanged(1, 2, 2, 2, 0, "2 2 0 0 0 0 0 0");
        exchanged(1, 1, 2, 3, 0, "1 3 0 0 0 0 0 0");
        exchanged(1, 3, 2, 1, 1, "2 2 0 0 0 0 0 0");
        // Jobs say who had more, not loads.
        exchanged(1, 3, 4, 5, 2, "1 7 0 0 0 0 0 0");
        exchanged(3, 0, 2, 10, 6, "6 4 0 0 0 0 0 0");
    }

    private static void exchanged(int speedA, int jobsA, int speedB, int jobsB, int moved, String jobs) {
        JobSpread x = Nets.of("ab0");
        x.node(0, speedA, jobsA);
        x.node(1, speedB, jobsB);
        run(x, EXCHANGE, 1, moved, jobs);
    }

    private static void exchangeCutsDownBelowZero() {
        JobSpread x = Nets.withJobsBelowZero();
        run(x, EXCHANGE, 1, 2, "0 0 0 1 0 0 0 0");
        JobSpread y = Nets.withJobsBelowZero();
        y.node(1, 4, 0);
        y.edge(0, 2, -1);
        y.edge(0, 3, -1);
        run(y, EXCHANGE, 1, 1, "-1 -1 1 1 0 0 0 0");
    }

    private static void exchangeTakesColoursByTurns() {
        JobSpread x = Nets.of("ab0bc2");
        x.node(0, 1, 9);
        run(x, FLOW, 1, 0, "9 0 0 0 0 0 0 0");
        run(x, EXCHANGE, 1, 0, "9 0 0 0 0 0 0 0");
        run(x, EXCHANGE, 1, 0, "9 0 0 0 0 0 0 0");
        run(x, EXCHANGE, 1, 4, "5 4 0 0 0 0 0 0");
        run(x, EXCHANGE, 1, 0, "5 4 0 0 0 0 0 0");
        run(x, EXCHANGE, 1, 2, "5 2 2 0 0 0 0 0");
        CHECK.due("carry(0, 1), left by exchanges", x.carry(0, 1), 10009);
        x.edge(1, 2, 1);
        // 6 rounds before, left over by 2 colours now.
        run(x, EXCHANGE, 1, 1, "4 3 2 0 0 0 0 0");
        run(x, EXCHANGE, 1, 0, "4 3 2 0 0 0 0 0");
    }

    private static void rotorDealsBySlots() {
        JobSpread x = Nets.of("dc0da0db0");
        x.node(3, 1, 6);
        run(x, ROTOR, 1, 5, "2 2 1 1 0 0 0 0");
        CHECK.due("told(3, 2)", x.told(3, 2), 2);
        CHECK.due("told(0, 2)", x.told(0, 2), 0);
        CHECK.due("count(2)", x.count(2), 1);
        // All at once: a and b send one each to d and keep one, c sends one, d keeps none: its rotor is at c.
        run(x, ROTOR, 1, 4, "1 1 1 3 0 0 0 0");
        CHECK.due("told(3, 2)", x.told(3, 2), 3);
        CHECK.due("told(2, 2)", x.told(2, 2), 1);
    }

    private static void rotorWrapsAround() {
        JobSpread x = Nets.of("ab0bc0");
        x.node(1, 1, 2);
        run(x, ROTOR, 1, 2, "1 0 1 0 0 0 0 0");
        CHECK.due("told(1, 2)", x.told(1, 2), 2);
        x.node(0, 1, 0);
        x.node(2, 1, 0);
        x.node(1, 1, 5);
        run(x, ROTOR, 1, 3, "2 2 1 0 0 0 0 0");
        CHECK.due("told(1, 2)", x.told(1, 2), 1);
    }

    private static void rotorIsLeftOverWhenDealing() {
        JobSpread x = Nets.of("ab0ac0ad0");
        x.node(0, 1, 3);
        x.run(ROTOR, 1);
        for (int i = 0; i < 4; i++) {
            x.node(i, 1, 0);
        }
        x.edge(0, 2, -1);
        x.edge(0, 3, -1);
        run(x, ROTOR, 1, 0, "0 0 0 0 0 0 0 0");
        x.edge(0, 2, 0);
        x.edge(0, 3, 0);
        CHECK.due("told(0, 2), no jobs were dealt", x.told(0, 2), 3);
        x.edge(0, 2, -1);
        x.edge(0, 3, -1);
        x.node(0, 1, 2);
        run(x, ROTOR, 1, 1, "1 1 0 0 0 0 0 0");
        x.edge(0, 2, 0);
        x.edge(0, 3, 0);
        CHECK.due("told(0, 2), jobs were dealt", x.told(0, 2), 1);
    }

    private static void rotorLeavesJobsBelowZero() {
        JobSpread x = Nets.withJobsBelowZero();
        x.node(3, 4, 0);
        run(x, ROTOR, 1, 2, "0 0 0 0 0 0 0 0");
        JobSpread y = Nets.withJobsBelowZero();
        y.edge(0, 1, -1);
        y.edge(0, 2, -1);
        run(y, ROTOR, 1, 1, "-1 1 1 0 0 0 0 0");
        CHECK.due("told(0, 2)", y.told(0, 2), 0);
        CHECK.due("told(3, 2)", y.told(3, 2), 1);
    }

    private static void rotorOfLonelyNode() {
        JobSpread x = new JobSpread();
        x.node(4, 2, 17);
        run(x, ROTOR, 50, 0, "0 0 0 0 17 0 0 0");
        CHECK.due("told(4, 2)", x.told(4, 2), 0);
        run(x, FLOW, 50, 0, "0 0 0 0 17 0 0 0");
        run(x, EXCHANGE, 50, 0, "0 0 0 0 17 0 0 0");
        CHECK.due("count(2)", x.count(2), 150);
    }

    private static void oneRoundAfterTheOther() {
        for (int rule = 0; rule < 3; rule++) {
            JobSpread x = Nets.of("ab0bc1cd2da3ae1");
            JobSpread y = Nets.of("ab0bc1cd2da3ae1");
            x.node(0, 3, 500);
            y.node(0, 3, 500);
            int moved = 0;
            for (int i = 0; i < 50; i++) {
                moved += x.run(rule, 1);
            }
            CHECK.due("run(" + rule + ", 50)", y.run(rule, 50), moved);
            CHECK.same("view behind 50 rounds by rule " + rule, Nets.view(y), Nets.view(x));
        }
    }

    private static void runRefuses() {
        JobSpread x = Nets.of("ab0");
        x.node(0, 1, 99);
        String before = Nets.view(x);
        int[][] outside = {{-1, 1}, {3, 1}, {0, 0}, {1, -1}, {2, 51}, {3, 51},
            {Integer.MIN_VALUE, 1}, {0, Integer.MAX_VALUE}, {0, Integer.MIN_VALUE}};
        for (int[] call : outside) {
            CHECK.due("run(" + call[0] + ", " + call[1] + ")", x.run(call[0], call[1]), JobSpread.OUTSIDE);
        }
        CHECK.same("view behind refused runs", Nets.view(x), before);
    }

    private static void resetStartsAgain() {
        JobSpread x = Nets.of("ab0bc3");
        x.node(0, 3, 10);
        x.node(2, 1, 5);
        x.run(FLOW, 2);
        x.run(ROTOR, 1);
        CHECK.holds("there is a carry", x.carry(0, 1) != 10000 && x.carry(1, 2) != 10000);
        CHECK.holds("there is a rotor", x.told(0, 2) + x.told(1, 2) + x.told(2, 2) > 0);
        String jobs = Nets.jobs(x);
        Nets.say(x, "a");
        CHECK.due("reset()", x.reset(), 3);
        CHECK.due("carry(0, 1)", x.carry(0, 1), 10000);
        CHECK.due("carry(1, 2)", x.carry(1, 2), 10000);
        for (int i = 0; i < 8; i++) {
            CHECK.due("told(" + i + ", 2)", x.told(i, 2), 0);
        }
        CHECK.due("count(2)", x.count(2), 0);
        CHECK.due("count(1)", x.count(1), 1);
        CHECK.due("told(1, 12)", x.told(1, 12), 3);
        CHECK.due("told(0, 0)", x.told(0, 0), 3);
        CHECK.same("jobs behind reset", Nets.jobs(x), jobs);
        CHECK.due("reset() again", x.reset(), 0);
        JobSpread y = Nets.of("gh0de0");
        y.node(6, 1, 3);
        y.node(4, 1, 3);
        y.run(FLOW, 1);
        CHECK.due("carry(6, 7)", y.carry(6, 7), 10003);
        CHECK.due("carry(3, 4)", y.carry(3, 4), 9997);
        CHECK.due("reset()", y.reset(), 1);
        CHECK.due("carry(6, 7)", y.carry(6, 7), 10000);
        CHECK.due("carry(3, 4)", y.carry(3, 4), 10000);
    }
}
