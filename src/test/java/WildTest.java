import java.util.Random;

/** No call throws or stays away, whatever it is given, even far behind the 512th call. */
public final class WildTest {
    private static final Check CHECK = new Check("WildTest");
    private static final int CALLS = 200_000;
    private static final int[] EDGES_OF_INT = {Integer.MIN_VALUE, Integer.MIN_VALUE + 1, -10000, -1, 0, 1,
        7, 8, 64, 10000, Integer.MAX_VALUE - 1, Integer.MAX_VALUE};

    private static final Random RANDOM = new Random(20261117);

    public static void main(String[] args) {
        JobSpread x = new JobSpread();
        long least = 0;
        for (int i = 0; i < CALLS; i++) {
            least = Math.min(least, draw(x));
        }
        CHECK.due("the least answer", least, JobSpread.FAULT);
        CHECK.end();
    }

    private static int number() {
        int kind = RANDOM.nextInt(10);
        return kind == 0 ? EDGES_OF_INT[RANDOM.nextInt(EDGES_OF_INT.length)]
                : kind == 1 ? RANDOM.nextInt(130) : kind == 2 ? RANDOM.nextInt() : RANDOM.nextInt(10) - 1;
    }

    // Signs that may tell edges, and a pad that is seldom emptied: else it would never be full or faulty.
    private static long draw(JobSpread x) {
        int which = RANDOM.nextInt(Calls.NAMES.length);
        String name = Calls.NAMES[which];
        if (name.equals("say")) {
            return x.say(number() + (RANDOM.nextBoolean() ? 'a' : '0'));
        }
        if ((name.equals("wipe") || name.equals("net")) && RANDOM.nextInt(20) > 0) {
            return 0;
        }
        return Calls.call(x, which, number(), number(), number());
    }
}
