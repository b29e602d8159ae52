/** Promises 13, 14, 15, 16: uneven, share, potential, ideal. */
public final class UnevenTest {
    private static final Check CHECK = new Check("UnevenTest");

    public static void main(String[] args) {
        unevenIsInLowestTerms();
        unevenBelowZero();
        unevenRefuses();
        shareBySpeeds();
        shareRefuses();
        potentialSumsUp();
        idealOfTwo();
        idealBySpeeds();
        idealLeavesCarryOut();
        idealOfStar();
        idealRefuses();
        CHECK.end();
    }

    private static void uneven(JobSpread x, int upper, int lower) {
        CHECK.due("uneven(0)", x.uneven(0), upper);
        CHECK.due("uneven(1)", x.uneven(1), lower);
    }

    private static void unevenIsInLowestTerms() {
        JobSpread x = new JobSpread();
        uneven(x, 0, 1);
        x.node(0, 4, 6);
        uneven(x, 3, 2);
        for (int i = 1; i < 8; i++) {
            x.node(i, 4, 2);
        }
        uneven(x, 1, 1);
        for (int i = 0; i < 8; i++) {
            x.node(i, i % 4 + 1, 3 * (i % 4 + 1));
        }
        uneven(x, 0, 1);
        x.node(7, 3, 10);
        uneven(x, 1, 3);
        x.node(6, 4, 11);
        uneven(x, 7, 12);
    }

    private static void unevenBelowZero() {
        JobSpread x = Nets.withJobsBelowZero();
        uneven(x, 9, 4);
        for (int i = 1; i < 4; i++) {
            x.node(i, 1, 0);
        }
        uneven(x, 2, 1);
    }

    private static void unevenRefuses() {
        JobSpread x = new JobSpread();
        int[] outside = {-1, 2, Integer.MIN_VALUE, Integer.MAX_VALUE};
        for (int part : outside) {
            CHECK.due("uneven(" + part + ")", x.uneven(part), JobSpread.OUTSIDE);
        }
    }

    private static void share(JobSpread x, int node, int upper, int lower) {
        CHECK.due("share(" + node + ", 0)", x.share(node, 0), upper);
        CHECK.due("share(" + node + ", 1)", x.share(node, 1), lower);
    }

    private static void shareBySpeeds() {
        JobSpread x = new JobSpread();
        share(x, 7, 0, 1);
        x.node(0, 2, 5);
        x.node(7, 1, 7);
        share(x, 0, 8, 3);
        share(x, 7, 4, 3);
        x.node(3, 1, 6);
        share(x, 0, 4, 1);
        share(x, 1, 2, 1);
        JobSpread y = Nets.withJobsBelowZero();
        share(y, 0, 1, 17);
        share(y, 1, 4, 17);
        y.node(1, 4, 0);
        share(y, 1, 0, 1);
    }

    private static void shareRefuses() {
        JobSpread x = Nets.withJobsBelowZero();
        for (int i = 1; i < 4; i++) {
            x.node(i, 1, 0);
        }
        CHECK.due("count(3)", x.count(3), 9998);
        CHECK.due("share(0, 0)", x.share(0, 0), JobSpread.STATE);
        CHECK.due("share(7, 1)", x.share(7, 1), JobSpread.STATE);
        CHECK.due("share(0, 2)", x.share(0, 2), JobSpread.OUTSIDE);
        CHECK.due("share(0, -1)", x.share(0, -1), JobSpread.OUTSIDE);
        CHECK.due("share(8, 2)", x.share(8, 2), JobSpread.UNKNOWN);
        CHECK.due("share(-1, 0)", x.share(-1, 0), JobSpread.UNKNOWN);
    }

    private static void potentialSumsUp() {
        JobSpread x = new JobSpread();
        CHECK.due("potential() of nothing", x.potential(), 0);
        x.node(0, 3, 5);
        x.node(1, 1, 1);
        CHECK.due("potential()", x.potential(), 1256);
        for (int i = 0; i < 8; i++) {
            x.node(i, i % 4 + 1, 3 * (i % 4 + 1));
        }
        CHECK.due("potential() of what is even", x.potential(), 0);
        CHECK.due("potential() below 0", Nets.withJobsBelowZero().potential(),
                35 * 35 + 3 * 13 * 13 + 4);
        JobSpread y = Nets.of("ab0");
        y.node(0, 4, 999);
        y.node(1, 1, 999);
        y.run(1, 1);
        y.node(1, 1, 999);
        y.run(1, 1);
        CHECK.due("jobs(0)", y.jobs(0), 12079);
        for (int i = 1; i < 8; i++) {
            y.node(i, 4, 0);
        }
        CHECK.due("potential() above an int", y.potential(), 3872727936L);
    }

    private static void ideal(JobSpread x, int node, int r, long upper, long lower) {
        CHECK.due("ideal(" + node + ", " + r + ", 0)", x.ideal(node, r, 0), upper);
        CHECK.due("ideal(" + node + ", " + r + ", 1)", x.ideal(node, r, 1), lower);
    }

    private static void idealOfTwo() {
        JobSpread x = Nets.of("ab0");
        x.node(0, 1, 10);
        x.node(2, 4, 33);
        String before = Nets.view(x);
        ideal(x, 0, 0, 10, 1);
        ideal(x, 1, 0, 0, 1);
        ideal(x, 0, 1, 35, 4);
        ideal(x, 1, 1, 5, 4);
        ideal(x, 0, 2, 125, 16);
        ideal(x, 1, 2, 35, 16);
        // What is uneven between both is three quarters of it behind each round.
        ideal(x, 0, 8, 5 * (65536 + 6561), 65536);
        ideal(x, 1, 8, 5 * (65536 - 6561), 65536);
        ideal(x, 2, 8, 33, 1);
        ideal(x, 3, 8, 0, 1);
        CHECK.same("view behind ideal", Nets.view(x), before);
    }

    private static void idealBySpeeds() {
        JobSpread x = Nets.of("ba0");
        x.node(0, 1, 6);
        x.node(1, 3, 1);
        ideal(x, 0, 1, 31, 8);
        ideal(x, 1, 1, 25, 8);
    }

    private static void idealLeavesCarryOut() {
        JobSpread x = Nets.of("ab0");
        x.node(0, 1, 3);
        x.run(0, 1);
        CHECK.due("carry(0, 1)", x.carry(0, 1), 10003);
        ideal(x, 0, 1, 21, 8);
        ideal(x, 1, 1, 3, 8);
    }

    private static void idealOfStar() {
        JobSpread x = Nets.of("ab0ac0ad0ae0af0ag0ah0");
        for (int i = 1; i < 8; i++) {
            x.node(i, 4, 0);
        }
        x.node(0, 1, 999);
        ideal(x, 0, 1, 999, 8);
        ideal(x, 5, 1, 999, 8);
        ideal(x, 0, 2, 10989, 256);
        // The lower number is near 32 to the 8th.
        CHECK.holds("a long lower number", x.ideal(0, 8, 1) > Integer.MAX_VALUE);
    }

    private static void idealRefuses() {
        JobSpread x = Nets.withJobsBelowZero();
        CHECK.due("ideal(1, 0, 0)", x.ideal(1, 0, 0), JobSpread.STATE);
        CHECK.due("ideal(0, 8, 1)", x.ideal(0, 8, 1), JobSpread.STATE);
        CHECK.due("ideal(0, 9, 0)", x.ideal(0, 9, 0), JobSpread.OUTSIDE);
        CHECK.due("ideal(0, -1, 0)", x.ideal(0, -1, 0), JobSpread.OUTSIDE);
        CHECK.due("ideal(0, 0, 2)", x.ideal(0, 0, 2), JobSpread.OUTSIDE);
        CHECK.due("ideal(0, 0, -1)", x.ideal(0, 0, -1), JobSpread.OUTSIDE);
        CHECK.due("ideal(8, 9, 2)", x.ideal(8, 9, 2), JobSpread.UNKNOWN);
        CHECK.due("ideal(-1, 0, 0)", x.ideal(-1, 0, 0), JobSpread.UNKNOWN);
        x.node(0, 1, 0);
        ideal(x, 1, 0, 1, 1);
    }
}
