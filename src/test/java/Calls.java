import java.util.Arrays;

/** Every call by its number, so that tests can draw calls at random, and by its text. */
final class Calls {
    static final String[] NAMES = {"node", "edge", "say", "wipe", "fault", "net", "jobs", "told",
        "carry", "run", "reset", "uneven", "share", "potential", "ideal", "until", "ring", "image",
        "restore", "count"};
    // How many numbers each takes.
    private static final int[] TAKES = {3, 3, 1, 0, 0, 0, 1, 2, 2, 2, 0, 1, 2, 0, 3, 2, 2, 1, 1, 1};

    private Calls() {
    }

    /** A call as it is written in Java, such as "edge(0, 1, -1)". */
    static long byText(JobSpread x, String text) {
        int open = text.indexOf('(');
        int which = Arrays.asList(NAMES).indexOf(text.substring(0, open));
        String inside = text.substring(open + 1, text.length() - 1);
        int[] numbers = new int[3];
        String[] parts = inside.isEmpty() ? new String[0] : inside.split(", ");
        for (int i = 0; i < parts.length; i++) {
            numbers[i] = Integer.parseInt(parts[i]);
        }
        if (which < 0 || parts.length != TAKES[which]) {
            throw new IllegalArgumentException(text);
        }
        return call(x, which, numbers[0], numbers[1], numbers[2]);
    }

    static long call(JobSpread x, int which, int p, int q, int r) {
        switch (which) {
            case 0: return x.node(p, q, r);
            case 1: return x.edge(p, q, r);
            case 2: return x.say(p);
            case 3: return x.wipe();
            case 4: return x.fault();
            case 5: return x.net();
            case 6: return x.jobs(p);
            case 7: return x.told(p, q);
            case 8: return x.carry(p, q);
            case 9: return x.run(p, q);
            case 10: return x.reset();
            case 11: return x.uneven(p);
            case 12: return x.share(p, q);
            case 13: return x.potential();
            case 14: return x.ideal(p, q, r);
            case 15: return x.until(p, q);
            case 16: return x.ring(p, q);
            case 17: return x.image(p);
            case 18: return x.restore(p);
            default: return x.count(p);
        }
    }
}
