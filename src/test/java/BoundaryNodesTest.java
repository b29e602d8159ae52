/** The edges of promises 1, 2, 3, 8, 9, 10: a new object, node, edge, jobs, told, carry. */
public final class BoundaryNodesTest {
    private static final Sentences T = new Sentences("BoundaryNodesTest");
    private static final int UNKNOWN = JobSpread.UNKNOWN;
    private static final int OUTSIDE = JobSpread.OUTSIDE;
    private static final int FULL = JobSpread.FULL;
    private static final int NONE = JobSpread.NONE;

    public static void main(String[] args) {
        aNewObject();
        node();
        edge();
        jobs();
        told();
        carry();
        T.end(1, 2, 3, 8, 9, 10);
    }

    // ---- promise 1

    private static void aNewObject() {
        newHasNoEdges();
        newHasNoJobs();
        newHasNoRounds();
        newPadIsEmpty();
        newKeepsNoImage();
        newSpeedsAreOne();
        newRotorsAreZero();
        newStandsApartFromOthers();
    }

    private static void newHasNoEdges() {
        T.begin(1, "No EDGES");
        JobSpread x = new JobSpread();
        T.due(x, "count(0)", 0);
        for (int a = 0; a < 8; a++) {
            T.due(x, "told(" + a + ", 1)", 0);
            for (int b = a + 1; b < 8; b++) {
                T.due(x, "told(" + a + ", " + (10 + b) + ")", NONE);
                T.due(x, "carry(" + a + ", " + b + ")", NONE);
            }
        }
    }

    private static void newHasNoJobs() {
        T.begin(1, "and JOBS (0 at first)");
        JobSpread x = new JobSpread();
        for (int i = 0; i < 8; i++) {
            T.due(x, "jobs(" + i + ")", 10000);
        }
        T.due(x, "count(3)", 10000);
        T.due(x, "count(6)", 0);
    }

    private static void newHasNoRounds() {
        T.begin(1, "ROUNDS are counted from 0 on.");
        T.due(new JobSpread(), "count(2)", 0);
        T.due(new JobSpread(), "reset()", 0);
        JobSpread x = new JobSpread();
        T.due(x, "run(0, 1)", 0);
        T.due(x, "count(2)", 1);
    }

    private static void newPadIsEmpty() {
        T.begin(1, "THE PAD is empty; no IMAGE is kept.");
        T.due(new JobSpread(), "count(1)", 0);
        T.due(new JobSpread(), "wipe()", 0);
        T.due(new JobSpread(), "fault()", NONE);
        T.due(new JobSpread(), "say(97)", 1);
        T.due(new JobSpread(), "net()", 0);
    }

    private static void newKeepsNoImage() {
        T.begin(1, "no IMAGE is kept");
        JobSpread x = new JobSpread();
        T.due(x, "count(7)", 0);
        T.due(x, "restore(0)", JobSpread.STATE);
        T.due(x, "restore(1)", JobSpread.STATE);
    }

    private static void newSpeedsAreOne() {
        T.begin(1, "each with a SPEED, 1 to 4 (1 at first)");
        JobSpread x = new JobSpread();
        for (int i = 0; i < 8; i++) {
            T.due(x, "told(" + i + ", 0)", 1);
        }
    }

    private static void newRotorsAreZero() {
        T.begin(1, "and a ROTOR, 0 at first");
        T.same("rotors", Probe.ROTORS.of(new JobSpread()), "0 0 0 0 0 0 0 0 ");
    }

    private static void newStandsApartFromOthers() {
        T.begin(1, "No EDGES, no JOBS; no ROUNDS; THE PAD is empty; no IMAGE is kept.");
        String alone = Nets.view(new JobSpread());
        JobSpread busy = Nets.busy();
        String ofBusy = Nets.view(Nets.busy());
        JobSpread x = new JobSpread();
        T.same("an object made beside a busy one", Nets.view(x), alone);
        x.node(0, 4, 999);
        x.edge(0, 1, 3);
        x.run(2, 1);
        x.image(0);
        x.wipe();
        T.same("the busy one beside it", Nets.view(busy), ofBusy);
    }

    // ---- promise 2

    private static void node() {
        nodeIsZeroToSeven();
        nodeSpeedIsOneToFour();
        nodeJobsAreZeroToMost();
        nodeTellsJobsThatItHad();
        nodeTellsUnknownFirst();
        nodeChangesNothingElse();
    }

    private static void nodeIsZeroToSeven() {
        T.begin(2, "NODES are 0 to 7");
        for (int i = 0; i < 8; i++) {
            T.due(new JobSpread(), "node(" + i + ", 1, 1)", 10000);
        }
        T.refused(Nets::busy, "node(-1, 1, 1)", UNKNOWN);
        T.refused(Nets::busy, "node(8, 1, 1)", UNKNOWN);
        for (int far : Sentences.FAR) {
            T.due(Nets.busy(), "node(" + far + ", 1, 1)", UNKNOWN);
        }
    }

    private static void nodeSpeedIsOneToFour() {
        T.begin(2, "a SPEED, 1 to 4");
        JobSpread x = new JobSpread();
        for (int speed = 1; speed <= 4; speed++) {
            T.due(x, "node(3, " + speed + ", 0)", 10000);
            T.due(x, "told(3, 0)", speed);
        }
        T.refused(Nets::busy, "node(0, 0, 1)", OUTSIDE);
        T.refused(Nets::busy, "node(0, 5, 1)", OUTSIDE);
        for (int far : Sentences.FAR) {
            T.due(Nets.busy(), "node(0, " + far + ", 1)", OUTSIDE);
        }
    }

    private static void nodeJobsAreZeroToMost() {
        T.begin(2, "JOBS (0 to 999)");
        JobSpread x = new JobSpread();
        T.due(x, "node(3, 1, 999)", 10000);
        T.due(x, "jobs(3)", 10999);
        T.due(x, "node(3, 1, 0)", 10999);
        T.due(x, "jobs(3)", 10000);
        T.refused(Nets::busy, "node(0, 1, -1)", OUTSIDE);
        T.refused(Nets::busy, "node(0, 1, 1000)", OUTSIDE);
        for (int far : new int[] {Integer.MIN_VALUE, -10000, 10000, 1 << 16, Integer.MAX_VALUE}) {
            T.due(Nets.busy(), "node(0, 1, " + far + ")", OUTSIDE);
        }
    }

    private static void nodeTellsJobsThatItHad() {
        T.begin(2, "JOBS that it had, and 10000, added.");
        JobSpread x = Nets.withJobsBelowZero();
        T.due(x, "node(0, 1, 1)", 9998);
        T.due(x, "node(0, 1, 0)", 10001);
        JobSpread y = Nets.of("ab0");
        y.node(0, 4, 999);
        y.node(1, 1, 999);
        y.run(1, 1);
        // More than can be given to a node at once.
        T.due(y, "node(0, 4, 999)", 11599);
        T.due(y, "node(0, 4, 999)", 10999);
    }

    private static void nodeTellsUnknownFirst() {
        T.begin(2, "UNKNOWN; OUTSIDE: both.");
        T.refused(Nets::busy, "node(8, 0, 1)", UNKNOWN);
        T.refused(Nets::busy, "node(-1, 1, 1000)", UNKNOWN);
        T.refused(Nets::busy, "node(8, 5, -1)", UNKNOWN);
        T.refused(Nets::busy, "node(0, 0, -1)", OUTSIDE);
        T.refused(Nets::busy, "node(7, 5, 1000)", OUTSIDE);
    }

    private static void nodeChangesNothingElse() {
        T.begin(2, "A NODE has a SPEED, and JOBS");
        JobSpread x = Nets.busy();
        int speed = x.told(1, 0);
        int jobs = x.jobs(1) - 10000;
        T.holds("jobs that can be given to a node", jobs >= 0 && jobs <= 999);
        T.changesNothing(Nets::busy, "node(1, " + speed + ", " + jobs + ")");
    }

    // ---- promise 3

    private static void edge() {
        edgeOfUnknownNodes();
        edgeNotToItself();
        edgeIsOneAtMost();
        edgeColourIsZeroToThree();
        edgeIsTheTwelfthAtMost();
        edgeInPlaceOfOneOfTwelve();
        edgeGoes();
        edgeGoesWhereThereIsNone();
        edgeRefusalsInOrder();
        edgeCarryIsZeroAsItIsLaid();
        edgeLeavesRotors();
    }

    private static void edgeOfUnknownNodes() {
        T.begin(3, "UNKNOWN: both");
        T.due(new JobSpread(), "edge(0, 7, 0)", 1);
        T.due(new JobSpread(), "edge(7, 0, 0)", 1);
        T.refused(Nets::busy, "edge(-1, 0, 0)", UNKNOWN);
        T.refused(Nets::busy, "edge(0, -1, 0)", UNKNOWN);
        T.refused(Nets::busy, "edge(8, 0, 0)", UNKNOWN);
        T.refused(Nets::busy, "edge(0, 8, 0)", UNKNOWN);
        T.refused(Nets::busy, "edge(0, 8, -1)", UNKNOWN);
        for (int far : Sentences.FAR) {
            T.due(Nets.busy(), "edge(" + far + ", 1, 0)", UNKNOWN);
            T.due(Nets.busy(), "edge(1, " + far + ", 0)", UNKNOWN);
        }
    }

    private static void edgeNotToItself() {
        T.begin(3, "OUTSIDE: both are one");
        for (int i = 0; i < 8; i++) {
            T.due(Nets.busy(), "edge(" + i + ", " + i + ", 0)", OUTSIDE);
        }
        T.refused(Nets::busy, "edge(0, 0, 0)", OUTSIDE);
        T.refused(Nets::busy, "edge(7, 7, 3)", OUTSIDE);
        T.refused(Nets::busy, "edge(1, 1, -1)", OUTSIDE);
    }

    private static void edgeIsOneAtMost() {
        T.begin(3, "between two there is one at most");
        for (int a = 0; a < 8; a++) {
            for (int b = a + 1; b < 8; b++) {
                JobSpread x = new JobSpread();
                T.due(x, "edge(" + a + ", " + b + ", 1)", 1);
                T.due(x, "edge(" + b + ", " + a + ", 2)", 1);
                T.due(x, "edge(" + a + ", " + b + ", 3)", 1);
                T.due(x, "told(" + b + ", " + (10 + a) + ")", 3);
                T.due(x, "told(" + a + ", 1)", 1);
                T.due(x, "told(" + b + ", 1)", 1);
            }
        }
    }

    private static void edgeColourIsZeroToThree() {
        T.begin(3, "each has a COLOUR, 0 to 3");
        JobSpread x = new JobSpread();
        for (int colour = 0; colour <= 3; colour++) {
            T.due(x, "edge(2, 5, " + colour + ")", 1);
            T.due(x, "told(5, 12)", colour);
        }
        T.refused(Nets::busy, "edge(0, 1, 4)", OUTSIDE);
        T.refused(Nets::busy, "edge(0, 1, -2)", OUTSIDE);
        T.refused(Nets::busy, "edge(0, 7, 4)", OUTSIDE);
        for (int far : Sentences.FAR) {
            T.due(Nets.busy(), "edge(0, 1, " + far + ")", OUTSIDE);
        }
    }

    private static void edgeIsTheTwelfthAtMost() {
        T.begin(3, "FULL: there are 12 others.");
        JobSpread x = Nets.of(Nets.TWELVE.substring(0, 33));
        T.due(x, "count(0)", 11);
        T.due(x, "edge(6, 7, 0)", 12);
        T.due(x, "edge(5, 7, 0)", FULL);
        T.due(x, "told(5, 17)", NONE);
        T.refused(Nets::full, "edge(1, 7, 0)", FULL);
        T.refused(Nets::full, "edge(7, 1, 3)", FULL);
        T.refused(Nets::full, "edge(6, 7, 1)", FULL);
    }

    private static void edgeInPlaceOfOneOfTwelve() {
        T.begin(3, "An EDGE of a COLOUR is laid between two NODES, in place of one that lay there");
        for (int at = 0; at < 36; at += 3) {
            int a = Nets.TWELVE.charAt(at) - 'a';
            int b = Nets.TWELVE.charAt(at + 1) - 'a';
            int other = 3 - (Nets.TWELVE.charAt(at + 2) - '0');
            JobSpread x = Nets.of(Nets.TWELVE);
            T.due(x, "edge(" + b + ", " + a + ", " + other + ")", 12);
            T.due(x, "told(" + a + ", " + (10 + b) + ")", other);
            T.due(x, "count(0)", 12);
        }
    }

    private static void edgeGoes() {
        T.begin(3, "colour = -1: it goes: how many EDGES there are.");
        JobSpread x = Nets.of("ab2");
        T.due(x, "edge(1, 0, -1)", 0);
        T.due(x, "told(0, 11)", NONE);
        T.due(x, "told(0, 1)", 0);
        T.due(x, "count(0)", 0);
        JobSpread y = Nets.of(Nets.TWELVE);
        T.due(y, "edge(0, 1, -1)", 11);
        T.due(y, "edge(1, 7, 0)", 12);
        T.due(y, "edge(0, 1, 0)", FULL);
    }

    // Nothing is laid by it, so that there is no lack of room either.
    private static void edgeGoesWhereThereIsNone() {
        T.begin(3, "colour = -1: it goes");
        T.due(new JobSpread(), "edge(0, 1, -1)", 0);
        T.due(Nets.of("ab0"), "edge(0, 2, -1)", 1);
        T.due(Nets.of(Nets.TWELVE), "edge(1, 7, -1)", 12);
        T.changesNothing(Nets::busy, "edge(0, 7, -1)");
        T.changesNothing(Nets::full, "edge(1, 7, -1)");
    }

    private static void edgeRefusalsInOrder() {
        T.begin(3, "UNKNOWN: both; OUTSIDE: both are one, the COLOUR; FULL: there are 12 others.");
        T.refused(Nets::busy, "edge(8, 8, 0)", UNKNOWN);
        T.refused(Nets::busy, "edge(-1, -1, 4)", UNKNOWN);
        T.refused(Nets::busy, "edge(0, 8, 4)", UNKNOWN);
        T.refused(Nets::busy, "edge(8, 0, -2)", UNKNOWN);
        T.refused(Nets::busy, "edge(0, 0, 4)", OUTSIDE);
        T.refused(Nets::full, "edge(1, 8, 0)", UNKNOWN);
        T.refused(Nets::full, "edge(1, 7, 4)", OUTSIDE);
        T.refused(Nets::full, "edge(1, 7, -2)", OUTSIDE);
        T.refused(Nets::full, "edge(7, 7, 0)", OUTSIDE);
    }

    private static JobSpread withCarry() {
        JobSpread x = Nets.of("ab0bc0");
        x.node(0, 1, 5);
        x.node(2, 1, 5);
        x.run(0, 1);
        return x;
    }

    private static void edgeCarryIsZeroAsItIsLaid() {
        T.begin(3, "An EDGE has a CARRY, 0 as it is laid.");
        JobSpread x = withCarry();
        T.due(x, "carry(0, 1)", 10005);
        T.due(x, "edge(0, 1, 0)", 2);
        T.due(x, "carry(0, 1)", 10000);
        T.due(x, "carry(1, 2)", 9995);
        JobSpread y = withCarry();
        T.due(y, "edge(2, 1, -1)", 1);
        T.due(y, "edge(1, 2, 3)", 2);
        T.due(y, "carry(1, 2)", 10000);
        T.due(y, "carry(0, 1)", 10005);
        T.due(y, "edge(0, 2, 0)", 3);
        T.due(y, "carry(0, 2)", 10000);
    }

    private static void edgeLeavesRotors() {
        T.begin(3, "EDGES that are laid, or go, do not change it");
        JobSpread x = Nets.of(Nets.star(3));
        x.node(3, 1, 7);
        x.run(2, 1);
        T.due(x, "told(3, 2)", 7);
        int[] leftOver = {0, 1, 2, 3, 1, 1, 0};
        int[] others = {0, 1, 2, 4, 5, 6, 7};
        for (int i = 0; i < others.length; i++) {
            T.due(x, "edge(3, " + others[i] + ", -1)", 6 - i);
            T.due(x, "told(3, 2)", leftOver[i]);
        }
        T.same("rotors", Probe.ROTORS.of(x), "0 0 0 7 0 0 0 0 ");
    }

    // ---- promise 8

    private static void jobs() {
        T.begin(8, "JOBS of a NODE, and 10000, added. UNKNOWN.");
        JobSpread x = Nets.withJobsBelowZero();
        T.due(x, "jobs(0)", 9998);
        T.due(x, "jobs(1)", 10001);
        T.due(x, "jobs(7)", 10000);
        x.node(7, 1, 999);
        T.due(x, "jobs(7)", 10999);
        T.refused(Nets::busy, "jobs(-1)", UNKNOWN);
        T.refused(Nets::busy, "jobs(8)", UNKNOWN);
        for (int far : Sentences.FAR) {
            T.due(Nets.busy(), "jobs(" + far + ")", UNKNOWN);
        }
        T.changesNothing(Nets::busy, "jobs(0)");
    }

    // ---- promise 9

    private static void told() {
        toldOfUnknownNode();
        toldWhatIsOutside();
        toldEdgesFromNoneToSeven();
        toldRotorIsLeftOver();
        toldNoEdge();
        toldRefusalsInOrder();
    }

    private static void toldOfUnknownNode() {
        T.begin(9, "UNKNOWN; OUTSIDE.");
        T.due(Nets.busy(), "told(0, 0)", 3);
        T.due(Nets.busy(), "told(7, 0)", 1);
        T.refused(Nets::busy, "told(-1, 0)", UNKNOWN);
        T.refused(Nets::busy, "told(8, 0)", UNKNOWN);
        for (int far : Sentences.FAR) {
            T.due(Nets.busy(), "told(" + far + ", 1)", UNKNOWN);
        }
    }

    private static void toldWhatIsOutside() {
        T.begin(9, "Of a NODE: SPEED (what = 0), how many EDGES (1), its ROTOR, left over by its SLOTS (2), the COLOUR"
                + " of the EDGE to NODE what less 10 (10 to 17");
        JobSpread x = Nets.of("ah3hb1");
        T.due(x, "told(7, 0)", 1);
        T.due(x, "told(7, 1)", 2);
        T.due(x, "told(7, 2)", 0);
        T.due(x, "told(7, 10)", 3);
        T.due(x, "told(0, 17)", 3);
        for (int what : new int[] {-1, 3, 4, 8, 9, 18, 19, 20}) {
            T.refused(Nets::busy, "told(0, " + what + ")", OUTSIDE);
        }
        for (int far : Sentences.FAR) {
            T.due(x, "told(0, " + far + ")", OUTSIDE);
        }
    }

    private static void toldEdgesFromNoneToSeven() {
        T.begin(9, "how many EDGES (1)");
        for (int i = 0; i < 8; i++) {
            T.due(new JobSpread(), "told(" + i + ", 1)", 0);
            JobSpread x = Nets.of(Nets.star(i));
            T.due(x, "told(" + i + ", 1)", 7);
            T.due(x, "told(" + (7 - i) + ", 1)", 1);
        }
    }

    private static void toldRotorIsLeftOver() {
        T.begin(9, "its ROTOR, left over by its SLOTS (2)");
        JobSpread x = Nets.of("ab0ac0ad0");
        x.node(0, 1, 3);
        x.run(2, 1);
        T.due(x, "told(0, 2)", 3);
        x.edge(0, 3, -1);
        T.due(x, "told(0, 2)", 0);
        x.edge(0, 2, -1);
        T.due(x, "told(0, 2)", 1);
        x.edge(0, 1, -1);
        T.due(x, "told(0, 2)", 0);
    }

    private static void toldNoEdge() {
        T.begin(9, "NONE: there is no EDGE");
        T.due(Nets.of("ab0"), "told(0, 12)", NONE);
        T.due(Nets.of("ab0"), "told(2, 10)", NONE);
        for (int i = 0; i < 8; i++) {
            T.due(Nets.of(Nets.star(i)), "told(" + i + ", " + (10 + i) + ")", NONE);
        }
        T.changesNothing(Nets::busy, "told(0, 17)");
    }

    private static void toldRefusalsInOrder() {
        T.begin(9, "NONE -6 is told only where no refusal fits");
        T.due(Nets.busy(), "told(8, 3)", UNKNOWN);
        T.due(Nets.busy(), "told(-1, 18)", UNKNOWN);
        T.due(Nets.busy(), "told(8, 17)", UNKNOWN);
        T.due(Nets.busy(), "told(7, 18)", OUTSIDE);
    }

    // ---- promise 10

    private static void carry() {
        carryOfUnknownNodes();
        carryOfItself();
        carryOfNoEdge();
        carryRefusalsInOrder();
        carryOnBothSidesOfZero();
    }

    private static void carryOfUnknownNodes() {
        T.begin(10, "UNKNOWN: both; OUTSIDE: both are one.");
        T.due(Nets.of("ah0"), "carry(0, 7)", 10000);
        T.due(Nets.of("ah0"), "carry(7, 0)", 10000);
        T.refused(Nets::busy, "carry(-1, 0)", UNKNOWN);
        T.refused(Nets::busy, "carry(0, -1)", UNKNOWN);
        T.refused(Nets::busy, "carry(8, 0)", UNKNOWN);
        T.refused(Nets::busy, "carry(0, 8)", UNKNOWN);
        for (int far : Sentences.FAR) {
            T.due(Nets.busy(), "carry(" + far + ", 1)", UNKNOWN);
            T.due(Nets.busy(), "carry(1, " + far + ")", UNKNOWN);
        }
    }

    private static void carryOfItself() {
        T.begin(10, "OUTSIDE: both are one.");
        for (int i = 0; i < 8; i++) {
            T.due(Nets.busy(), "carry(" + i + ", " + i + ")", OUTSIDE);
        }
        T.refused(Nets::busy, "carry(0, 0)", OUTSIDE);
    }

    private static void carryOfNoEdge() {
        T.begin(10, "NONE: there is no EDGE");
        JobSpread x = Nets.of("ab0");
        T.due(x, "carry(0, 2)", NONE);
        T.due(x, "carry(2, 1)", NONE);
        T.due(x, "carry(6, 7)", NONE);
        x.edge(0, 1, -1);
        T.due(x, "carry(0, 1)", NONE);
        T.changesNothing(Nets::busy, "carry(0, 7)");
    }

    private static void carryRefusalsInOrder() {
        T.begin(10, "NONE -6 is told only where no refusal fits");
        T.due(new JobSpread(), "carry(8, 8)", UNKNOWN);
        T.due(new JobSpread(), "carry(-1, -1)", UNKNOWN);
        T.due(new JobSpread(), "carry(0, 8)", UNKNOWN);
        T.due(new JobSpread(), "carry(3, 3)", OUTSIDE);
    }

    private static void carryOnBothSidesOfZero() {
        T.begin(10, "CARRY of the EDGE between two NODES, and 10000, added");
        JobSpread x = Nets.of("ab0cd0");
        x.node(0, 1, 7);
        x.node(3, 1, 7);
        x.run(0, 1);
        T.due(x, "carry(0, 1)", 10007);
        T.due(x, "carry(1, 0)", 10007);
        T.due(x, "carry(2, 3)", 9993);
        T.due(x, "carry(3, 2)", 9993);
    }
}
