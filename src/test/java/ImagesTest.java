/** Promises 19, 20, 21: image, restore, count. */
public final class ImagesTest {
    private static final Check CHECK = new Check("ImagesTest");

    public static void main(String[] args) {
        restoreBringsAllBack();
        imagesStandApart();
        refuses();
        counts();
        CHECK.end();
    }

    private static JobSpread busy() {
        JobSpread x = Nets.of("ab0bc3cd1");
        x.node(0, 3, 100);
        x.node(2, 1, 51);
        x.run(0, 7);
        x.run(2, 2);
        return x;
    }

    private static void restoreBringsAllBack() {
        JobSpread x = busy();
        CHECK.due("image(1)", x.image(1), 1);
        String kept = Nets.view(x);
        x.node(0, 1, 5);
        x.node(7, 4, 5);
        x.edge(0, 1, 2);
        x.edge(2, 3, -1);
        x.edge(5, 6, 3);
        x.run(2, 3);
        x.run(0, 3);
        CHECK.holds("much is changed", x.count(2) == 15 && x.count(0) == 3 && x.told(0, 0) == 1);
        CHECK.due("restore(1)", x.restore(1), 1);
        CHECK.same("view behind restore", Nets.view(x), kept);
        x.reset();
        x.net();
        CHECK.due("restore(1) again", x.restore(1), 1);
        CHECK.same("view behind restore again", Nets.view(x), kept);
        CHECK.same("what is restored goes on alike", goneOn(x), goneOn(busy()));
    }

    private static String goneOn(JobSpread x) {
        StringBuilder text = new StringBuilder();
        text.append(x.run(2, 5)).append(' ').append(x.run(1, 5)).append(' ').append(x.run(0, 5));
        return text.append(' ').append(Nets.jobs(x)).toString();
    }

    private static void imagesStandApart() {
        JobSpread x = new JobSpread();
        x.node(0, 2, 1);
        x.image(0);
        CHECK.due("count(7)", x.count(7), 1);
        x.node(0, 3, 2);
        x.image(1);
        CHECK.due("count(7)", x.count(7), 3);
        Nets.say(x, "ab");
        CHECK.due("restore(0)", x.restore(0), 1);
        CHECK.due("count(7) behind restore(0)", x.count(7), 3);
        CHECK.due("count(1), the pad stays", x.count(1), 2);
        CHECK.due("jobs(0)", x.jobs(0), 10001);
        CHECK.due("told(0, 0)", x.told(0, 0), 2);
        CHECK.due("restore(1)", x.restore(1), 1);
        CHECK.due("jobs(0)", x.jobs(0), 10002);
        x.node(0, 4, 3);
        CHECK.due("image(0) in place", x.image(0), 1);
        x.restore(1);
        x.restore(0);
        CHECK.due("jobs(0)", x.jobs(0), 10003);
        JobSpread y = new JobSpread();
        y.image(1);
        CHECK.due("count(7) of the second", y.count(7), 2);
        CHECK.due("restore(0)", y.restore(0), JobSpread.STATE);
    }

    private static void refuses() {
        JobSpread x = busy();
        x.image(0);
        String before = Nets.view(x);
        int[] outside = {-1, 2, 32, Integer.MIN_VALUE, Integer.MAX_VALUE};
        for (int k : outside) {
            CHECK.due("image(" + k + ")", x.image(k), JobSpread.OUTSIDE);
            CHECK.due("restore(" + k + ")", x.restore(k), JobSpread.OUTSIDE);
        }
        CHECK.due("restore(1)", x.restore(1), JobSpread.STATE);
        CHECK.same("view behind refused images", Nets.view(x), before);
        int[] noCount = {-1, 8, Integer.MIN_VALUE, Integer.MAX_VALUE};
        for (int what : noCount) {
            CHECK.due("count(" + what + ")", x.count(what), JobSpread.OUTSIDE);
        }
    }

    private static void counts() {
        JobSpread x = Nets.withJobsBelowZero();
        Nets.say(x, "!~");
        int[] due = {3, 2, 4, 10001, 16, 1, 1, 0};
        for (int what = 0; what < due.length; what++) {
            CHECK.due("count(" + what + ")", x.count(what), due[what]);
        }
        JobSpread y = Nets.of("ab0ac0ad0ae0af0ag0ah2");
        for (int i = 0; i < 8; i++) {
            y.node(i, 1, 999);
        }
        CHECK.due("count(3)", y.count(3), 17992);
        CHECK.due("count(4)", y.count(4), 32);
        CHECK.due("count(5)", y.count(5), 3);
        y.edge(0, 7, -1);
        CHECK.due("count(4)", y.count(4), 28);
        CHECK.due("count(5)", y.count(5), 1);
        y.edge(6, 7, 3);
        CHECK.due("count(5)", y.count(5), 4);
        y.net();
        CHECK.due("count(4) of no edge", y.count(4), 4);
        CHECK.due("count(5) of no edge", y.count(5), 1);
        CHECK.due("count(0) of no edge", y.count(0), 0);
    }
}
