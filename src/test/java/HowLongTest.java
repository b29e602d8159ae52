/** Promises 17 and 18: until, ring. */
public final class HowLongTest {
    private static final Check CHECK = new Check("HowLongTest");
    private static final int FLOW = 0;
    private static final int EXCHANGE = 1;
    private static final int ROTOR = 2;

    public static void main(String[] args) {
        untilByEachRule();
        untilOfFractions();
        untilRefuses();
        ringByEachRule();
        ringLooksAtRotors();
        ringLooksAtCarries();
        ringLooksAtRoundsByColours();
        ringRefuses();
        nothingChanges();
        CHECK.end();
    }

    private static void ring(JobSpread x, int rule, int a, int p) {
        CHECK.due("ring(" + rule + ", 0)", x.ring(rule, 0), a);
        CHECK.due("ring(" + rule + ", 1)", x.ring(rule, 1), p);
    }

    private static JobSpread twoNodes(int jobs) {
        JobSpread x = Nets.of("ab0");
        x.node(0, 1, jobs);
        return x;
    }

    private static void untilByEachRule() {
        JobSpread x = twoNodes(10);
        CHECK.due("until(0, 10)", x.until(FLOW, 10), 0);
        CHECK.due("until(0, 9)", x.until(FLOW, 9), 1);
        CHECK.due("until(0, 5)", x.until(FLOW, 5), 9);
        CHECK.due("until(0, 4)", x.until(FLOW, 4), JobSpread.NONE);
        CHECK.due("until(1, 5)", x.until(EXCHANGE, 5), 1);
        CHECK.due("until(1, 4)", x.until(EXCHANGE, 4), JobSpread.NONE);
        CHECK.due("until(2, 5)", x.until(ROTOR, 5), 1);
        CHECK.due("until(2, 99)", x.until(ROTOR, 99), 0);
        CHECK.due("until(0, 0) of nothing", new JobSpread().until(FLOW, 0), 0);
    }

    private static void untilOfFractions() {
        JobSpread x = new JobSpread();
        for (int i = 0; i < 8; i++) {
            x.node(i, 3, 3);
        }
        x.node(0, 3, 7);
        CHECK.due("until(0, 1) of 4 by 3", x.until(FLOW, 1), JobSpread.NONE);
        CHECK.due("until(0, 2) of 4 by 3", x.until(FLOW, 2), 0);
        x.node(0, 3, 6);
        CHECK.due("until(0, 1) of 1", x.until(FLOW, 1), 0);
    }

    /** A long way from a to h: what is there evens out slowly. */
    private static JobSpread path(int jobs) {
        JobSpread x = Nets.of("ab0bc1cd0de1ef0fg1gh0");
        x.node(0, 1, jobs);
        return x;
    }

    private static void untilRefuses() {
        JobSpread x = twoNodes(10);
        int[][] outside = {{-1, 0}, {3, 0}, {0, -1}, {0, 100}, {3, 100},
            {Integer.MIN_VALUE, 0}, {0, Integer.MAX_VALUE}, {0, Integer.MIN_VALUE}};
        for (int[] call : outside) {
            CHECK.due("until(" + call[0] + ", " + call[1] + ")", x.until(call[0], call[1]), JobSpread.OUTSIDE);
        }
    }

    private static void ringByEachRule() {
        ring(new JobSpread(), FLOW, 0, 1);
        ring(new JobSpread(), EXCHANGE, 0, 1);
        ring(new JobSpread(), ROTOR, 0, 1);
        JobSpread x = twoNodes(10);
        ring(x, FLOW, 9, 1);
        ring(x, EXCHANGE, 1, 1);
        // 10 and 0, then 5 and 5, 5 and 5 with the other rotors, and so on.
        ring(x, ROTOR, 1, 2);
        x.run(ROTOR, 1);
        ring(x, ROTOR, 0, 2);
    }

    private static void ringLooksAtRotors() {
        JobSpread x = twoNodes(1);
        // It is at a, b, a, a, b, b: only the last is like an earlier one with both rotors.
        ring(x, ROTOR, 1, 4);
        for (int i = 0; i < 4; i++) {
            x.run(ROTOR, 1);
            ring(x, ROTOR, 0, 4);
        }
    }

    private static void ringLooksAtCarries() {
        JobSpread x = twoNodes(1);
        // The job stands still while the carry grows to 8; at b it makes the carry fall to -8, at a grow again.
        CHECK.due("run(0, 7)", x.run(FLOW, 7), 0);
        CHECK.due("run(0, 1)", x.run(FLOW, 1), 1);
        x.reset();
        ring(x, FLOW, 0, 16);
    }

    private static void ringLooksAtRoundsByColours() {
        JobSpread x = Nets.of("ab3");
        ring(x, FLOW, 0, 4);
        ring(x, EXCHANGE, 0, 4);
        ring(x, ROTOR, 0, 4);
        x.node(0, 1, 2);
        ring(x, EXCHANGE, 4, 4);
        x.run(EXCHANGE, 3);
        ring(x, EXCHANGE, 1, 4);
    }

    private static void ringRefuses() {
        JobSpread x = twoNodes(10);
        int[][] outside = {{-1, 0}, {3, 0}, {0, -1}, {0, 2}, {3, 2},
            {Integer.MIN_VALUE, 0}, {0, Integer.MAX_VALUE}};
        for (int[] call : outside) {
            CHECK.due("ring(" + call[0] + ", " + call[1] + ")", x.ring(call[0], call[1]), JobSpread.OUTSIDE);
        }
    }

    private static void nothingChanges() {
        JobSpread x = path(500);
        x.node(4, 3, 77);
        x.run(FLOW, 3);
        x.run(ROTOR, 3);
        x.image(1);
        Nets.say(x, "ab");
        String before = Nets.view(x);
        for (int rule = 0; rule < 3; rule++) {
            x.until(rule, 3);
            x.ring(rule, 0);
            x.ring(rule, 1);
        }
        CHECK.same("view behind until and ring", Nets.view(x), before);
        x.restore(1);
        CHECK.same("view of the image behind until and ring", Nets.view(x), before);
    }
}
