/** The edges of promises 19, 20, 21: image, restore, count. */
public final class BoundaryImagesTest {
    private static final Sentences T = new Sentences("BoundaryImagesTest");
    private static final int OUTSIDE = JobSpread.OUTSIDE;
    private static final int STATE = JobSpread.STATE;
    private static final int NONE = JobSpread.NONE;

    public static void main(String[] args) {
        image();
        restore();
        count();
        T.end(19, 20, 21);
    }

    // All but the pad and the images, by the view with an empty pad.
    private static String without(JobSpread x) {
        x.wipe();
        return Nets.view(x).replaceAll(" c\\d+ f", " f");
    }

    // ---- promise 19

    private static void image() {
        imageIsFirstOrSecond();
        imageInPlaceOfAnother();
        imageOfANewObject();
        imageKeepsNoPad();
        imageKeepsNoImages();
        imageLeavesAllAsItIs();
    }

    private static void imageIsFirstOrSecond() {
        T.begin(19, "is kept in an IMAGE (0, 1), in place of what was kept there: 1. OUTSIDE.");
        T.due(Nets.full(), "image(0)", 1);
        T.due(Nets.full(), "image(1)", 1);
        T.refused(Nets::busy, "image(-1)", OUTSIDE);
        T.refused(Nets::busy, "image(2)", OUTSIDE);
        T.refused(JobSpread::new, "image(-1)", OUTSIDE);
        T.refused(JobSpread::new, "image(2)", OUTSIDE);
        for (int far : Sentences.FAR) {
            T.due(new JobSpread(), "image(" + far + ")", OUTSIDE);
        }
        // Shifts are by what is left over by 32.
        T.due(new JobSpread(), "image(32)", OUTSIDE);
        T.due(new JobSpread(), "image(33)", OUTSIDE);
    }

    private static void imageInPlaceOfAnother() {
        T.begin(19, "in place of what was kept there: 1.");
        for (int k = 0; k < 2; k++) {
            JobSpread x = Nets.busy();
            String other = k == 0 ? "SECOND" : "FIRST";
            T.due(x, "image(" + k + ")", 1);
            T.due(x, "count(7)", 3);
            String kept = without(x);
            x.net();
            x.node(0, 1, 0);
            x.reset();
            T.due(x, "restore(" + k + ")", 1);
            T.same("what was kept in place of another", without(x), kept);
            Probe probe = Probe.valueOf(other + "_IMAGE");
            JobSpread y = Nets.busy();
            y.wipe();
            T.same("the other image", probe.of(x), probe.of(y));
        }
    }

    private static void imageOfANewObject() {
        T.begin(19, "All but THE PAD and IMAGES is kept");
        JobSpread x = new JobSpread();
        String kept = without(x);
        T.due(x, "image(0)", 1);
        Nets.say(x, Nets.TWELVE);
        x.net();
        x.node(0, 4, 999);
        x.run(2, 50);
        x.run(0, 50);
        T.due(x, "restore(0)", 1);
        T.same("a new object again", without(x), kept);
        T.same("rotors", Probe.ROTORS.of(x), "0 0 0 0 0 0 0 0 ");
    }

    private static void imageKeepsNoPad() {
        T.begin(19, "All but THE PAD");
        JobSpread x = new JobSpread();
        Nets.say(x, "ab0");
        T.due(x, "image(0)", 1);
        T.due(x, "count(1)", 3);
        x.wipe();
        T.due(x, "restore(0)", 1);
        T.due(x, "count(1)", 0);
        T.due(x, "fault()", NONE);
    }

    private static void imageKeepsNoImages() {
        T.begin(19, "and IMAGES is kept");
        JobSpread x = new JobSpread();
        T.due(x, "image(0)", 1);
        x.node(0, 1, 7);
        T.due(x, "image(1)", 1);
        x.restore(0);
        T.due(x, "count(7)", 3);
        T.due(x, "restore(1)", 1);
        T.due(x, "jobs(0)", 10007);
    }

    // Images are left out here: one of them is what it changes.
    private static void imageLeavesAllAsItIs() {
        T.begin(19, "All but THE PAD and IMAGES is kept in an IMAGE");
        Probe[] probes = {Probe.VIEW, Probe.PAD, Probe.ROTORS, Probe.AHEAD};
        for (Probe probe : probes) {
            JobSpread x = Nets.busy();
            x.image(0);
            T.same(probe + " behind image(0)", probe.of(x), probe.of(Nets.busy()));
        }
    }

    // ---- promise 20

    private static void restore() {
        restoreOfFirstOrSecond();
        restoreOfNothing();
        restoreRefusalsInOrder();
        restoreBringsBackAll();
        restoreLeavesTheImage();
        restoreLeavesThePad();
        restoreOfRotorsThatAreLeftOver();
    }

    private static void restoreOfFirstOrSecond() {
        T.begin(20, "the IMAGE stays: 1. OUTSIDE");
        T.due(Nets.busy(), "restore(0)", 1);
        T.due(Nets.busy(), "restore(1)", 1);
        T.refused(Nets::busy, "restore(-1)", OUTSIDE);
        T.refused(Nets::busy, "restore(2)", OUTSIDE);
        for (int far : Sentences.FAR) {
            T.due(Nets.busy(), "restore(" + far + ")", OUTSIDE);
        }
        T.due(Nets.busy(), "restore(32)", OUTSIDE);
        T.due(Nets.busy(), "restore(33)", OUTSIDE);
    }

    private static void restoreOfNothing() {
        T.begin(20, "STATE: nothing was kept in it.");
        T.refused(JobSpread::new, "restore(0)", STATE);
        T.refused(JobSpread::new, "restore(1)", STATE);
        // The second is kept there, the first is not.
        T.refused(Nets::full, "restore(0)", STATE);
        JobSpread x = new JobSpread();
        x.image(0);
        T.due(x, "restore(1)", STATE);
        T.due(x, "image(1)", 1);
        T.due(x, "restore(1)", 1);
    }

    private static void restoreRefusalsInOrder() {
        T.begin(20, "OUTSIDE; STATE: nothing was kept in it.");
        T.refused(JobSpread::new, "restore(-1)", OUTSIDE);
        T.refused(JobSpread::new, "restore(2)", OUTSIDE);
    }

    private static void restoreBringsBackAll() {
        T.begin(20, "All but THE PAD and IMAGES is as it was when it was kept");
        JobSpread x = Nets.busy();
        x.image(0);
        String kept = without(x);
        for (int i = 0; i < 8; i++) {
            x.node(i, 4, 900 + i);
        }
        Nets.say(x, Nets.TWELVE);
        x.net();
        x.run(0, 3);
        x.run(2, 3);
        T.due(x, "restore(0)", 1);
        T.same("all", without(x), kept);
    }

    private static void restoreLeavesTheImage() {
        T.begin(20, "the IMAGE stays: 1.");
        JobSpread x = Nets.of("ab0");
        x.node(0, 1, 10);
        x.image(1);
        for (int i = 0; i < 3; i++) {
            x.run(1, 1);
            x.run(2, 1);
            T.due(x, "count(2)", 2);
            T.due(x, "restore(1)", 1);
            T.jobs(x, "10 0 0 0 0 0 0 0");
            T.due(x, "count(2)", 0);
            T.due(x, "count(7)", 2);
        }
    }

    private static void restoreLeavesThePad() {
        T.begin(20, "All but THE PAD and IMAGES is as it was");
        JobSpread x = Nets.full();
        T.due(x, "restore(1)", 1);
        T.due(x, "count(1)", 40);
        T.due(x, "fault()", 36);
        JobSpread y = Nets.busy();
        T.due(y, "restore(0)", 1);
        T.due(y, "net()", 2);
        T.due(y, "told(4, 15)", 2);
        T.due(y, "told(6, 17)", 1);
    }

    private static void restoreOfRotorsThatAreLeftOver() {
        T.begin(20, "as it was when it was kept");
        JobSpread x = Nets.of(Nets.star(0));
        x.node(0, 1, 7);
        x.run(2, 1);
        x.net();
        x.image(0);
        T.due(x, "told(0, 2)", 0);
        x.reset();
        T.due(x, "restore(0)", 1);
        T.same("rotors", Probe.ROTORS.of(x), "7 0 0 0 0 0 0 0 ");
    }

    // ---- promise 21

    private static void count() {
        countWhatIsOutside();
        countOfNothing();
        countEdges();
        countSigns();
        countRounds();
        countJobs();
        countMeasure();
        countColours();
        countNodesBelowZero();
        countImages();
        countChangesNothing();
    }

    private static void countWhatIsOutside() {
        T.begin(21, "(7: 1 the first, 2 the second, added). OUTSIDE.");
        T.due(Nets.busy(), "count(0)", 4);
        T.due(Nets.busy(), "count(7)", 3);
        T.refused(Nets::busy, "count(-1)", OUTSIDE);
        T.refused(Nets::busy, "count(8)", OUTSIDE);
        for (int far : Sentences.FAR) {
            T.due(Nets.busy(), "count(" + far + ")", OUTSIDE);
        }
    }

    private static void countOfNothing() {
        T.begin(21, "EDGES (what = 0), signs of THE PAD (1), ROUNDS (2), all JOBS together, and 10000, added (3),"
                + " MEASURE (4), COLOURS (5)");
        int[] due = {0, 0, 0, 10000, 4, 1, 0, 0};
        for (int what = 0; what < due.length; what++) {
            T.due(new JobSpread(), "count(" + what + ")", due[what]);
        }
    }

    private static void countEdges() {
        T.begin(21, "EDGES (what = 0)");
        for (int edges = 0; edges <= 12; edges++) {
            T.due(Nets.of(Nets.TWELVE.substring(0, 3 * edges)), "count(0)", edges);
        }
        JobSpread x = Nets.of(Nets.TWELVE);
        x.edge(1, 7, 0);
        T.due(x, "count(0)", 12);
    }

    private static void countSigns() {
        T.begin(21, "signs of THE PAD (1)");
        JobSpread x = new JobSpread();
        for (int signs = 0; signs <= 40; signs++) {
            T.due(x, "count(1)", signs);
            x.say('~');
        }
        T.due(x, "count(1)", 40);
    }

    private static void countRounds() {
        T.begin(21, "ROUNDS (2)");
        JobSpread x = new JobSpread();
        T.due(x, "count(2)", 0);
        x.run(0, 1);
        T.due(x, "count(2)", 1);
        x.until(0, 0);
        x.ring(0, 0);
        x.ideal(0, 8, 0);
        T.due(x, "count(2)", 1);
        for (int i = 0; i < 500; i++) {
            x.run(2, 50);
        }
        T.due(x, "count(2)", 25001);
    }

    private static void countJobs() {
        T.begin(21, "all JOBS together, and 10000, added (3)");
        JobSpread x = new JobSpread();
        for (int i = 0; i < 8; i++) {
            x.node(i, 1, 999);
            T.due(x, "count(3)", 10000 + 999 * (i + 1));
        }
        JobSpread y = Nets.withOneBelowZero();
        T.due(y, "count(3)", 10001);
        y.node(1, 4, 0);
        T.due(y, "count(3)", 10000);
        y.node(2, 4, 0);
        T.due(y, "count(3)", 9999);
    }

    private static void countMeasure() {
        T.begin(21, "MEASURE (4)");
        String star = Nets.star(7);
        for (int edges = 0; edges <= 7; edges++) {
            T.due(Nets.of(star.substring(0, 3 * edges)), "count(4)", 4 * (1 + edges));
        }
        T.due(Nets.of("ab0cd0ef0gh0"), "count(4)", 8);
        T.due(Nets.of(Nets.TWELVE), "count(4)", 32);
    }

    private static void countColours() {
        T.begin(21, "COLOURS (5)");
        for (int colour = 0; colour <= 3; colour++) {
            T.due(Nets.of("gh" + colour), "count(5)", colour + 1);
            T.due(Nets.of("ab0gh" + colour), "count(5)", colour + 1);
        }
        JobSpread x = Nets.of("ab0gh3");
        x.edge(6, 7, -1);
        T.due(x, "count(5)", 1);
        x.edge(0, 1, 2);
        T.due(x, "count(5)", 3);
        x.edge(0, 1, -1);
        T.due(x, "count(5)", 1);
    }

    private static void countNodesBelowZero() {
        T.begin(21, "how many NODES have JOBS below 0 (6)");
        T.due(Nets.full(), "count(6)", 0);
        JobSpread x = Nets.withOneBelowZero();
        T.due(x, "count(6)", 1);
        x.node(0, 1, 0);
        T.due(x, "count(6)", 0);
        JobSpread y = Nets.withJobsBelowZero();
        y.edge(0, 2, -1);
        y.edge(0, 3, -1);
        y.node(1, 4, 0);
        y.run(1, 1);
        T.due(y, "count(6)", 2);
    }

    private static void countImages() {
        T.begin(21, "which IMAGES are kept (7: 1 the first, 2 the second, added)");
        JobSpread x = new JobSpread();
        T.due(x, "count(7)", 0);
        x.image(0);
        x.image(0);
        T.due(x, "count(7)", 1);
        x.image(1);
        T.due(x, "count(7)", 3);
        x.restore(0);
        x.restore(1);
        T.due(x, "count(7)", 3);
        JobSpread y = new JobSpread();
        y.image(1);
        T.due(y, "count(7)", 2);
        y.image(0);
        T.due(y, "count(7)", 3);
    }

    private static void countChangesNothing() {
        T.begin(21, "EDGES (what = 0), signs of THE PAD (1), ROUNDS (2)");
        for (int what = 0; what < 8; what++) {
            T.changesNothing(Nets::busy, "count(" + what + ")");
        }
    }
}
