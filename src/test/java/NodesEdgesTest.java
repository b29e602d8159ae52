/** Promises 1, 2, 3, 8, 9, 10: a new object, node, edge, jobs, told, carry. */
public final class NodesEdgesTest {
    private static final Check CHECK = new Check("NodesEdgesTest");
    private static final int[] NO_NODES = {-1, 8, Integer.MIN_VALUE, Integer.MAX_VALUE};

    public static void main(String[] args) {
        aNewObject();
        nodeTellsJobsBefore();
        nodeRefuses();
        edgeIsLaidAndGoes();
        edgeLaidAgainStartsAnew();
        edgeRefuses();
        edgeIsFullBesideTwelveOthers();
        jobsRefuses();
        toldOfNode();
        toldRotorLeftOver();
        toldRefuses();
        carryOfEdge();
        CHECK.end();
    }

    private static void aNewObject() {
        JobSpread x = new JobSpread();
        CHECK.same("jobs of a new object", Nets.jobs(x), "0 0 0 0 0 0 0 0");
        for (int i = 0; i < 8; i++) {
            CHECK.due("new: told(" + i + ", 0)", x.told(i, 0), 1);
            CHECK.due("new: told(" + i + ", 1)", x.told(i, 1), 0);
            CHECK.due("new: told(" + i + ", 2)", x.told(i, 2), 0);
        }
        int[] due = {0, 0, 0, 10000, 4, 1, 0, 0};
        for (int what = 0; what < due.length; what++) {
            CHECK.due("new: count(" + what + ")", x.count(what), due[what]);
        }
        CHECK.due("new: fault()", x.fault(), JobSpread.NONE);
        CHECK.due("new: wipe()", x.wipe(), 0);
        CHECK.due("new: restore(0)", x.restore(0), JobSpread.STATE);
        CHECK.due("new: restore(1)", x.restore(1), JobSpread.STATE);
        CHECK.due("new: uneven(0)", x.uneven(0), 0);
        CHECK.due("new: uneven(1)", x.uneven(1), 1);
    }

    private static void nodeTellsJobsBefore() {
        JobSpread x = new JobSpread();
        CHECK.due("node(7, 4, 999)", x.node(7, 4, 999), 10000);
        CHECK.due("node(7, 1, 0)", x.node(7, 1, 0), 10999);
        CHECK.due("told(7, 0)", x.told(7, 0), 1);
        CHECK.due("jobs(7)", x.jobs(7), 10000);
        JobSpread y = Nets.withJobsBelowZero();
        CHECK.due("jobs(0) below 0", y.jobs(0), 9998);
        CHECK.due("node of jobs below 0", y.node(0, 2, 5), 9998);
        CHECK.due("jobs(0)", y.jobs(0), 10005);
    }

    private static void nodeRefuses() {
        JobSpread x = Nets.of("ab1");
        x.node(0, 3, 7);
        String before = Nets.view(x);
        for (int no : NO_NODES) {
            CHECK.due("node(" + no + ", 9, 9999)", x.node(no, 9, 9999), JobSpread.UNKNOWN);
        }
        CHECK.due("node(0, 0, 0)", x.node(0, 0, 0), JobSpread.OUTSIDE);
        CHECK.due("node(0, 5, 0)", x.node(0, 5, 0), JobSpread.OUTSIDE);
        CHECK.due("node(0, 1, -1)", x.node(0, 1, -1), JobSpread.OUTSIDE);
        CHECK.due("node(0, 1, 1000)", x.node(0, 1, 1000), JobSpread.OUTSIDE);
        CHECK.same("view after refused nodes", Nets.view(x), before);
    }

    private static void edgeIsLaidAndGoes() {
        JobSpread x = new JobSpread();
        CHECK.due("edge(5, 2, 3)", x.edge(5, 2, 3), 1);
        CHECK.due("told(2, 15)", x.told(2, 15), 3);
        CHECK.due("told(5, 12)", x.told(5, 12), 3);
        CHECK.due("edge(2, 5, 0) in place", x.edge(2, 5, 0), 1);
        CHECK.due("told(5, 12)", x.told(5, 12), 0);
        CHECK.due("edge(2, 6, 1)", x.edge(2, 6, 1), 2);
        CHECK.due("told(2, 1)", x.told(2, 1), 2);
        CHECK.due("edge(5, 2, -1)", x.edge(5, 2, -1), 1);
        CHECK.due("told(5, 12)", x.told(5, 12), JobSpread.NONE);
        CHECK.due("told(2, 1)", x.told(2, 1), 1);
        CHECK.due("told(5, 1)", x.told(5, 1), 0);
        CHECK.due("edge(5, 2, -1) again", x.edge(5, 2, -1), 1);
        CHECK.due("told(2, 1)", x.told(2, 1), 1);
    }

    private static void edgeLaidAgainStartsAnew() {
        JobSpread x = Nets.of("ab0");
        x.node(0, 1, 3);
        x.run(0, 1);
        CHECK.due("carry(0, 1)", x.carry(0, 1), 10003);
        x.edge(1, 0, 0);
        CHECK.due("carry(0, 1) of an edge laid in place", x.carry(0, 1), 10000);
        x.run(0, 1);
        x.edge(0, 1, -1);
        CHECK.due("carry(0, 1) of no edge", x.carry(0, 1), JobSpread.NONE);
        x.edge(0, 1, 0);
        CHECK.due("carry(0, 1) of an edge laid again", x.carry(0, 1), 10000);
    }

    private static void edgeRefuses() {
        JobSpread x = Nets.of("ab1");
        String before = Nets.view(x);
        for (int no : NO_NODES) {
            CHECK.due("edge(" + no + ", 0, 9)", x.edge(no, 0, 9), JobSpread.UNKNOWN);
            CHECK.due("edge(0, " + no + ", 9)", x.edge(0, no, 9), JobSpread.UNKNOWN);
            CHECK.due("edge(" + no + ", " + no + ", 0)", x.edge(no, no, 0), JobSpread.UNKNOWN);
        }
        CHECK.due("edge(3, 3, 0)", x.edge(3, 3, 0), JobSpread.OUTSIDE);
        CHECK.due("edge(3, 3, -1)", x.edge(3, 3, -1), JobSpread.OUTSIDE);
        CHECK.due("edge(0, 1, -2)", x.edge(0, 1, -2), JobSpread.OUTSIDE);
        CHECK.due("edge(0, 1, 4)", x.edge(0, 1, 4), JobSpread.OUTSIDE);
        CHECK.same("view after refused edges", Nets.view(x), before);
    }

    private static void edgeIsFullBesideTwelveOthers() {
        JobSpread x = Nets.of("ab0ac0ad0ae0af0ag0ah0bc0bd0be0bf0");
        CHECK.due("edge(1, 6, 2), the twelfth", x.edge(1, 6, 2), 12);
        String before = Nets.view(x);
        CHECK.due("edge(1, 7, 2)", x.edge(1, 7, 2), JobSpread.FULL);
        CHECK.due("edge(1, 7, 4)", x.edge(1, 7, 4), JobSpread.OUTSIDE);
        CHECK.due("edge(1, 8, 2)", x.edge(1, 8, 2), JobSpread.UNKNOWN);
        CHECK.due("edge(1, 7, -1), which is not there", x.edge(1, 7, -1), 12);
        CHECK.same("view of the full net", Nets.view(x), before);
        CHECK.due("edge(6, 1, 3) in place", x.edge(6, 1, 3), 12);
        CHECK.due("told(6, 11)", x.told(6, 11), 3);
        CHECK.due("edge(0, 7, -1)", x.edge(0, 7, -1), 11);
        CHECK.due("edge(1, 7, 2)", x.edge(1, 7, 2), 12);
    }

    private static void jobsRefuses() {
        JobSpread x = new JobSpread();
        for (int no : NO_NODES) {
            CHECK.due("jobs(" + no + ")", x.jobs(no), JobSpread.UNKNOWN);
        }
    }

    private static void toldOfNode() {
        JobSpread x = Nets.of("ha3ab0cb2");
        x.node(1, 4, 0);
        CHECK.due("told(1, 0)", x.told(1, 0), 4);
        CHECK.due("told(1, 1)", x.told(1, 1), 2);
        CHECK.due("told(7, 1)", x.told(7, 1), 1);
        CHECK.due("told(7, 10)", x.told(7, 10), 3);
        CHECK.due("told(0, 17)", x.told(0, 17), 3);
        CHECK.due("told(1, 12)", x.told(1, 12), 2);
        CHECK.due("told(0, 11)", x.told(0, 11), 0);
        CHECK.due("told(0, 12)", x.told(0, 12), JobSpread.NONE);
        CHECK.due("told(7, 17) of itself", x.told(7, 17), JobSpread.NONE);
    }

    // Edges that go do not change a rotor, only what it leaves over.
    private static void toldRotorLeftOver() {
        JobSpread x = Nets.of("ab0ac0ad0");
        x.node(0, 1, 3);
        x.run(2, 1);
        CHECK.due("told(0, 2) of 4 slots", x.told(0, 2), 3);
        x.edge(0, 3, -1);
        CHECK.due("told(0, 2) of 3 slots", x.told(0, 2), 0);
        x.edge(0, 2, -1);
        CHECK.due("told(0, 2) of 2 slots", x.told(0, 2), 1);
        x.edge(0, 1, -1);
        CHECK.due("told(0, 2) of 1 slot", x.told(0, 2), 0);
        Nets.say(x, "ab0ac0ad0ae0");
        x.net();
        CHECK.due("told(0, 2) of 5 slots", x.told(0, 2), 3);
        x.node(0, 4, 0);
        CHECK.due("told(0, 2) behind node", x.told(0, 2), 3);
    }

    private static void toldRefuses() {
        JobSpread x = Nets.of("ab0");
        for (int no : NO_NODES) {
            CHECK.due("told(" + no + ", 3)", x.told(no, 3), JobSpread.UNKNOWN);
        }
        int[] outside = {-1, 3, 9, 18, Integer.MIN_VALUE, Integer.MAX_VALUE};
        for (int what : outside) {
            CHECK.due("told(0, " + what + ")", x.told(0, what), JobSpread.OUTSIDE);
        }
    }

    private static void carryOfEdge() {
        JobSpread x = Nets.of("ab0");
        x.node(0, 1, 2);
        x.node(1, 3, 5);
        x.run(0, 1);
        CHECK.due("carry(0, 1)", x.carry(0, 1), 10001);
        x.node(0, 1, 0);
        x.run(0, 1);
        CHECK.due("carry(0, 1) below 0", x.carry(0, 1), 9996);
        CHECK.due("carry(1, 0)", x.carry(1, 0), 9996);
        CHECK.due("carry(0, 2)", x.carry(0, 2), JobSpread.NONE);
        CHECK.due("carry(2, 2)", x.carry(2, 2), JobSpread.OUTSIDE);
        for (int no : NO_NODES) {
            CHECK.due("carry(" + no + ", 1)", x.carry(no, 1), JobSpread.UNKNOWN);
            CHECK.due("carry(1, " + no + ")", x.carry(1, no), JobSpread.UNKNOWN);
            CHECK.due("carry(" + no + ", " + no + ")", x.carry(no, no), JobSpread.UNKNOWN);
        }
    }
}
