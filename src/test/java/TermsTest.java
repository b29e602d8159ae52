import java.util.Arrays;

/** What the document says ahead of its promises: what the class is, and its terms. */
public final class TermsTest {
    private static final Sentences T = new Sentences("TermsTest");
    private static final int ALL = Sentences.NO_PROMISE;
    private static final int NONE = JobSpread.NONE;
    private static final int OUTSIDE = JobSpread.OUTSIDE;
    private static final int CALLS = 512;
    /** Each node has two neighbours; edges of like colours do not meet. */
    private static final String CIRCLE = "ab0bc1cd0de1ef0fg1gh0ha1";

    public static void main(String[] args) {
        noJobIsLost();
        theLastCallOfAll();
        manyRoundsWithinAllCalls();
        evenOut();
        whatIsCutOffIsCarriedOn();
        oneColourAfterTheOther();
        oneJobAfterTheOther();
        whatItTells();
        toldAsThingsAreThen();
        lettersAreNodes();
        betweenTwoNodes();
        twelveInAll();
        lesserAndGreater();
        leftOverForTheLesser();
        flowToAndFro();
        rulesByNumber();
        T.end();
    }

    // ---- what it is

    private static JobSpread net(String edges, int... jobs) {
        JobSpread x = Nets.of(edges);
        for (int i = 0; i < jobs.length; i++) {
            x.node(i, i % 4 + 1, jobs[i]);
        }
        return x;
    }

    private static void noJobIsLost() {
        T.begin(ALL, "Whole jobs spread over a net.");
        String[] edges = {"", "ab0", CIRCLE, Nets.TWELVE, Nets.star(3)};
        for (String some : edges) {
            JobSpread x = net(some, 999, 0, 7, 500, 1, 0, 0, 93);
            for (int i = 0; i < 30; i++) {
                x.run(i % 3, 1 + i);
                T.due(x, "count(3)", 11600);
            }
        }
        JobSpread x = Nets.withJobsBelowZero();
        for (int i = 0; i < 30; i++) {
            x.run(i % 3, 1);
            T.due(x, "count(3)", 10001);
        }
    }

    // Nets.busy() makes 25 calls.
    private static void theLastCallOfAll() {
        T.begin(ALL, "An object is used for at most 512 calls after it has been made");
        String[] calls = {"node(0, 2, 3)", "edge(0, 7, 3)", "say(97)", "wipe()", "fault()", "net()", "jobs(0)",
            "told(1, 12)", "carry(1, 2)", "run(2, 50)", "reset()", "uneven(0)", "share(3, 1)", "potential()",
            "ideal(0, 8, 1)", "until(1, 9)", "ring(2, 1)", "image(0)", "restore(1)", "count(3)"};
        T.holds("each call is there", calls.length == Calls.NAMES.length);
        for (String call : calls) {
            JobSpread x = Nets.busy();
            for (int used = 25; used < CALLS - 1; used++) {
                x.jobs(used % 8);
            }
            T.due(x, call, Calls.byText(Nets.busy(), call));
        }
    }

    private static void manyRoundsWithinAllCalls() {
        T.begin(ALL, "An object is used for at most 512 calls");
        JobSpread x = Nets.of("ab0");
        for (int used = 4; used < CALLS - 1; used++) {
            x.run(used % 3, 50);
        }
        T.due(x, "count(2)", 50 * (CALLS - 1 - 4));
        JobSpread y = new JobSpread();
        for (int used = 0; used < CALLS; used++) {
            T.due(y, used % 2 == 0 ? "edge(0, 7, 3)" : "edge(7, 0, -1)", 1 - used % 2);
        }
    }

    // ---- terms

    private static void evenOut() {
        T.begin(ALL, "Nodes of unlike speeds hold jobs; round by round these even out over edges, by one of three"
                + " rules");
        for (int rule = 0; rule < 3; rule++) {
            JobSpread alike = Nets.of(CIRCLE);
            alike.node(0, 1, 800);
            T.due(alike, "uneven(0)", 800);
            alike.run(rule, 50);
            alike.run(rule, 50);
            T.holds("800 jobs are even but for 7 by rule " + rule, alike.uneven(0) <= 7);
        }
        for (int rule = 0; rule < 2; rule++) {
            JobSpread unlike = net(CIRCLE, 500, 0, 0, 300, 0, 0, 200, 0);
            unlike.run(rule, 50);
            unlike.run(rule, 50);
            for (int i = 0; i < 8; i++) {
                int due = 50 * (i % 4 + 1);
                int jobs = unlike.jobs(i) - 10000;
                T.holds(jobs + " are near " + due + " by rule " + rule, Math.abs(jobs - due) <= 8);
            }
        }
    }

    // As long as a holds 5 and b nothing, 5 by 8 are to go each round.
    private static void whatIsCutOffIsCarriedOn() {
        T.begin(ALL, "flows along all edges at once, what is cut off being carried on");
        JobSpread x = Nets.of("ab0cd0");
        int gone = 0;
        for (int round = 1; round <= 40; round++) {
            x.node(0, 1, 5);
            x.node(1, 1, 0);
            x.node(2, 1, 0);
            x.node(3, 1, 5);
            T.due(x, "run(0, 1)", 2 * (5 * round / 8 - gone));
            gone = 5 * round / 8;
            T.due(x, "carry(0, 1)", 10000 + 5 * round % 8);
            T.due(x, "carry(2, 3)", 10000 - 5 * round % 8);
        }
    }

    private static void oneColourAfterTheOther() {
        T.begin(11, "exchanges along edges of one colour after the other");
        JobSpread x = Nets.of("gh3ab0ef2cd1");
        String[] due = {"1 1 2 0 2 0 2 0", "1 1 1 1 2 0 2 0", "1 1 1 1 1 1 2 0", "1 1 1 1 1 1 1 1"};
        for (int turn = 0; turn < 3; turn++) {
            for (int i = 0; i < 8; i++) {
                x.node(i, 1, i % 2 == 0 ? 2 : 0);
            }
            for (String jobs : due) {
                T.due(x, "run(1, 1)", 1);
                T.jobs(x, jobs);
            }
        }
    }

    // e deals to a, c, h and itself.
    private static void oneJobAfterTheOther() {
        T.begin(11, "rotors, by which each node deals out one job after the other to its neighbours and itself");
        int[] slots = {0, 2, 7, 4};
        JobSpread x = Nets.of("eh0ea1ce2");
        int at = 0;
        for (int jobs = 0; jobs < 25; jobs++) {
            for (int slot : slots) {
                x.node(slot, 1, 0);
            }
            x.node(4, 3, jobs);
            int[] gets = new int[8];
            for (int job = 0; job < jobs; job++) {
                gets[slots[at]]++;
                at = (at + 1) % slots.length;
            }
            T.due(x, "run(2, 1)", jobs - gets[4]);
            T.jobs(x, Arrays.toString(gets).replaceAll("[\\[\\],]", ""));
            T.due(x, "told(4, 2)", at);
        }
    }

    private static void whatItTells() {
        T.begin(ALL, "It is told how uneven it still is, as fractions, what would come of it if jobs could be parted at"
                + " will, how many rounds it takes, and when it comes round again.");
        JobSpread x = Nets.of("ab0");
        x.node(0, 1, 7);
        x.node(1, 2, 0);
        T.fraction(x, "uneven(", 7, 1);
        // 14 by 8 are to go, then 2 times 21 by 4 less 7 by 4, by 8.
        T.fraction(x, "ideal(0, 1, ", 21, 4);
        T.fraction(x, "ideal(1, 1, ", 7, 4);
        T.fraction(x, "ideal(0, 2, ", 133, 32);
        T.fraction(x, "ideal(1, 2, ", 91, 32);
        // 7 0, 6 1, 4 3, 4 3, 3 4, 3 4, 3 4, 2 5, with carries 0, 6, 1, 6, 3, 5, 7, 1. From 2 5 with carry 0 on, behind
        // 8 rounds, it falls by 1 in each of 8 rounds and grows by 2 in each of 4.
        T.due(x, "until(0, 6)", 1);
        T.due(x, "until(0, 4)", 2);
        T.due(x, "until(0, 3)", 4);
        T.due(x, "until(0, 2)", NONE);
        T.due(x, "ring(0, 0)", 8);
        T.due(x, "ring(0, 1)", 12);
        T.due(x, "run(0, 8)", 5);
        T.jobs(x, "2 5 0 0 0 0 0 0");
        T.fraction(x, "uneven(", 5, 2);
        T.due(x, "ring(0, 0)", 0);
    }

    private static String asked(JobSpread x) {
        StringBuilder text = new StringBuilder(Nets.jobs(x));
        String[] asks = {"told(0, 0)", "told(0, 1)", "told(0, 2)", "told(0, 11)", "carry(0, 1)", "fault()",
            "uneven(0)", "uneven(1)", "share(0, 0)", "share(0, 1)", "potential()", "ideal(0, 2, 0)",
            "ideal(0, 2, 1)", "until(0, 9)", "until(1, 9)", "ring(0, 0)", "ring(1, 1)", "ring(2, 1)", "count(0)",
            "count(1)", "count(2)", "count(3)", "count(4)", "count(5)", "count(6)", "count(7)"};
        for (String ask : asks) {
            text.append(' ').append(Calls.byText(x, ask));
        }
        return text.toString();
    }

    // One object is asked behind each change; for each of these answers another one is asked for the first time.
    private static void toldAsThingsAreThen() {
        T.begin(ALL, "Whatever is told is told as things are then.");
        String[] changes = {"node(0, 1, 100)", "edge(0, 1, 0)", "run(0, 3)", "node(1, 4, 7)", "edge(1, 2, 2)",
            "run(2, 2)", "image(0)", "run(1, 5)", "reset()", "say(97)", "say(104)", "say(51)", "net()", "run(0, 1)",
            "restore(0)"};
        JobSpread x = new JobSpread();
        String last = asked(x);
        for (int i = 0; i < 13; i++) {
            Calls.byText(x, changes[i]);
            last = isToldAnew(x, changes, i, last);
        }
        JobSpread y = new JobSpread();
        for (int i = 0; i < 13; i++) {
            Calls.byText(y, changes[i]);
        }
        last = asked(y);
        for (int i = 13; i < changes.length; i++) {
            Calls.byText(y, changes[i]);
            last = isToldAnew(y, changes, i, last);
        }
    }

    private static String isToldAnew(JobSpread x, String[] changes, int last, String before) {
        JobSpread twin = new JobSpread();
        for (int i = 0; i <= last; i++) {
            Calls.byText(twin, changes[i]);
        }
        String now = asked(x);
        T.same("behind " + changes[last], now, asked(twin));
        T.holds("something else is told behind " + changes[last], !now.equals(before));
        return now;
    }

    private static void lettersAreNodes() {
        T.begin(7, "NODES are 0 to 7 (a to h in texts)");
        for (int one = 0; one < 8; one++) {
            for (int other = 0; other < 8; other++) {
                if (one != other) {
                    JobSpread x = Nets.of("" + "abcdefgh".charAt(one) + "abcdefgh".charAt(other) + "2");
                    T.due(x, "count(0)", 1);
                    T.due(x, "told(" + one + ", " + (10 + other) + ")", 2);
                    T.due(x, "told(" + other + ", " + (10 + one) + ")", 2);
                }
            }
        }
    }

    private static void betweenTwoNodes() {
        T.begin(3, "EDGES lie between two NODES, not between one and itself");
        for (int one = 0; one < 8; one++) {
            for (int other = 0; other < 8; other++) {
                boolean isOne = one == other;
                JobSpread x = new JobSpread();
                T.due(x, "edge(" + one + ", " + other + ", 1)", isOne ? OUTSIDE : 1);
                T.due(x, "carry(" + one + ", " + other + ")", isOne ? OUTSIDE : 10000);
                T.due(x, "carry(" + other + ", " + one + ")", isOne ? OUTSIDE : 10000);
                T.due(x, "told(" + one + ", " + (10 + other) + ")", isOne ? NONE : 1);
                T.due(x, "told(" + one + ", 1)", isOne ? 0 : 1);
                T.due(x, "told(" + one + ", " + (10 + one) + ")", NONE);
                T.due(x, "edge(" + other + ", " + one + ", -1)", isOne ? OUTSIDE : 0);
            }
        }
    }

    private static void twelveInAll() {
        T.begin(3, "between two there is one at most, 12 in all");
        JobSpread x = new JobSpread();
        for (int again = 0; again < 2; again++) {
            int pairs = 0;
            for (int a = 0; a < 8; a++) {
                for (int b = a + 1; b < 8; b++) {
                    pairs++;
                    int due = pairs > 12 ? JobSpread.FULL : again == 0 ? pairs : 12;
                    T.due(x, "edge(" + a + ", " + b + ", 0)", due);
                }
            }
        }
        T.due(x, "count(0)", 12);
    }

    /** An edge that is laid from one to the other, the first of which has jobs. */
    private static JobSpread pair(int one, int other, int jobs) {
        JobSpread x = new JobSpread();
        x.edge(one, other, 0);
        x.node(one, 1, jobs);
        return x;
    }

    private static void lesserAndGreater() {
        T.begin(11, "For each EDGE, a being its lesser, b its greater NODE");
        for (int one = 0; one < 8; one++) {
            for (int other = 0; other < 8; other++) {
                if (one != other) {
                    JobSpread x = pair(one, other, 9);
                    T.due(x, "run(0, 1)", 1);
                    T.due(x, "carry(" + one + ", " + other + ")", one < other ? 10001 : 9999);
                }
            }
        }
    }

    // Of 2 jobs the greater one gets 1 by its speed; the other is left over.
    private static void leftOverForTheLesser() {
        T.begin(11, "that one of both gets it that had more before (a, if both had as many)");
        for (int one = 0; one < 8; one++) {
            for (int other = 0; other < 8; other++) {
                if (one != other) {
                    JobSpread x = pair(one, other, 1);
                    x.node(Math.min(one, other), 1, 1);
                    x.node(Math.max(one, other), 2, 1);
                    T.due(x, "run(1, 1)", 0);
                    T.due(x, "jobs(" + Math.min(one, other) + ")", 10001);
                }
            }
        }
    }

    private static void flowToAndFro() {
        T.begin(11, "then for each EDGE GO JOBS go from a to b (from b to a as many as GO is below 0)");
        for (int one = 0; one < 8; one++) {
            for (int other = 0; other < 8; other++) {
                if (one != other) {
                    JobSpread x = pair(one, other, 24);
                    T.due(x, "run(0, 1)", 3);
                    T.due(x, "jobs(" + one + ")", 10021);
                    T.due(x, "jobs(" + other + ")", 10003);
                    T.due(x, "count(3)", 10024);
                }
            }
        }
    }

    private static void rulesByNumber() {
        T.begin(11, "RULE 1, EXCHANGE: EDGES of one COLOUR, one after the other");
        String[] due = {"11 1 0 0 0 0 0 0", "6 3 3 0 0 0 0 0", "6 6 0 0 0 0 0 0"};
        for (int rule = 0; rule < 3; rule++) {
            JobSpread x = Nets.of("ab0bc0");
            x.node(0, 1, 12);
            x.run(rule, 1);
            T.jobs(x, due[rule]);
        }
    }
}
