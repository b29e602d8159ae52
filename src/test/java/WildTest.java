import java.util.Random;

/** No call throws or stays away, whatever it is given, even far behind the 512th call. */
public final class WildTest {
    private static final Check CHECK = new Check("WildTest");
    private static final int CALLS = 200_000;
    private static final int[] EDGES_OF_INT = {Integer.MIN_VALUE, Integer.MIN_VALUE + 1, -10000, -1, 0, 1,
        7, 8, 64, 10000, Integer.MAX_VALUE - 1, Integer.MAX_VALUE};

    private static final Random RANDOM = new Random(20261117);

    public static void main(String[] args) {
        JobSpread x = new JobSpread();
        long least = 0;
        for (int i = 0; i < CALLS; i++) {
            least = Math.min(least, call(x, RANDOM.nextInt(20), number(), number(), number()));
        }
        CHECK.due("the least answer", least, JobSpread.FAULT);
        CHECK.end();
    }

    private static int number() {
        int kind = RANDOM.nextInt(10);
        return kind == 0 ? EDGES_OF_INT[RANDOM.nextInt(EDGES_OF_INT.length)]
                : kind == 1 ? RANDOM.nextInt(130) : kind == 2 ? RANDOM.nextInt() : RANDOM.nextInt(10) - 1;
    }

    private static long call(JobSpread x, int which, int p, int q, int r) {
        switch (which) {
            case 0: return x.node(p, q, r);
            case 1: return x.edge(p, q, r);
            case 2: return x.say(RANDOM.nextBoolean() ? 'a' + p : '0' + p);
            case 3: return RANDOM.nextInt(20) == 0 ? x.wipe() : 0;
            case 4: return x.fault();
            case 5: return RANDOM.nextInt(20) == 0 ? x.net() : 0;
            case 6: return x.jobs(p);
            case 7: return x.told(p, q);
            case 8: return x.carry(p, q);
            case 9: return x.run(p, q);
            case 10: return x.reset();
            case 11: return x.uneven(p);
            case 12: return x.share(p, q);
            case 13: return x.potential();
            case 14: return x.ideal(p, q, r);
            case 15: return x.until(p, q);
            case 16: return x.ring(p, q);
            case 17: return x.image(p);
            case 18: return x.restore(p);
            default: return x.count(p);
        }
    }
}
