import java.util.Map;
import java.util.Random;
import java.util.TreeMap;

/** All promises: long runs of calls, each answer compared with that of the model. */
public final class ModelTest {
    private static final Check CHECK = new Check("ModelTest");
    private static final int OBJECTS = 1500;
    private static final int CALLS = 512;
    // How often each call comes, in the order of the names.
    private static final int[] OFTEN = {14, 10, 0, 1, 4, 2, 8, 10, 8, 14, 1, 6, 6, 4, 8, 4, 3, 2, 3, 10};
    private static final int NET_BY_PAD = 7;

    private final Random random;
    private final JobSpread x = new JobSpread();
    private final Model model = new Model();
    private final Map<String, Integer> reached;
    // With few jobs these come to be below 0 much more often.
    private final boolean fewJobs;
    private int calls = 0;

    private ModelTest(long seed, Map<String, Integer> reached) {
        random = new Random(seed);
        fewJobs = seed % 3 == 0;
        this.reached = reached;
    }

    public static void main(String[] args) {
        Map<String, Integer> reached = new TreeMap<>();
        for (int seed = 0; seed < OBJECTS && !CHECK.isWrong(); seed++) {
            ModelTest run = new ModelTest(seed, reached);
            while (run.calls < CALLS && !CHECK.isWrong()) {
                run.step();
            }
        }
        whatMustHaveBeenReached(reached);
        CHECK.end();
    }

    // A comparison is worth little if some answer never came up.
    private static void whatMustHaveBeenReached(Map<String, Integer> reached) {
        String[] must = {"node -1", "node -2", "edge -1", "edge -2", "edge -4", "say -2", "say -4", "fault -6",
            "net -7", "jobs -1", "told -1", "told -2", "told -6", "carry -1", "carry -2", "carry -6", "run -2",
            "uneven -2", "share -1", "share -2", "share -3", "ideal -1", "ideal -2", "ideal -3", "until -2",
            "until -6", "ring -2", "ring -6", "image -2", "restore -2", "restore -3", "count -2"};
        for (String answer : must) {
            CHECK.holds("reached: " + answer, reached.containsKey(answer));
        }
        for (String name : Calls.NAMES) {
            CHECK.holds("reached: " + name + " with an answer", reached.containsKey(name + " ok"));
        }
    }

    private void step() {
        if (random.nextInt(100) < NET_BY_PAD) {
            sayEdges();
            return;
        }
        if (fewJobs && random.nextInt(25) == 0) {
            leaveJobsBelowZeroAlone();
        }
        int all = 0;
        for (int often : OFTEN) {
            all += often;
        }
        int at = random.nextInt(all);
        int which = 0;
        while (at >= OFTEN[which]) {
            at -= OFTEN[which];
            which++;
        }
        call(which, number(which, 0), number(which, 1), number(which, 2));
    }

    // Else all jobs together are hardly ever below 0.
    private void leaveJobsBelowZeroAlone() {
        for (int i = 0; i < 8; i++) {
            if (model.jobs(i) > 10000) {
                call(0, i, model.told(i, 0), 0);
            }
        }
    }

    // Mostly a pad without a fault, sometimes one with a sign too many, too few, or another.
    private void sayEdges() {
        StringBuilder text = new StringBuilder();
        int edges = random.nextInt(14);
        for (int i = 0; i < edges; i++) {
            text.append((char) ('a' + random.nextInt(8))).append((char) ('a' + random.nextInt(8)));
            text.append((char) ('0' + random.nextInt(4)));
            JobSpread probe = new JobSpread();
            Nets.say(probe, text.toString());
            if (probe.fault() >= 0 && probe.fault() < 36 && random.nextInt(20) > 0) {
                text.setLength(text.length() - 3);
            }
        }
        if (text.length() > 0 && random.nextInt(4) == 0) {
            text.setCharAt(random.nextInt(text.length()), (char) (random.nextInt(100) + 30));
        }
        if (text.length() > 0 && random.nextInt(6) == 0) {
            text.setLength(text.length() - 1);
        }
        if (random.nextInt(4) > 0) {
            call(3, 0, 0, 0);
        }
        for (int i = 0; i < text.length(); i++) {
            call(2, text.charAt(i), 0, 0);
        }
        call(4, 0, 0, 0);
        call(5, 0, 0, 0);
    }

    private int number(int which, int place) {
        if (random.nextInt(60) == 0) {
            int[] wild = {-1, -2, 8, 9, 18, 51, 100, 1000, Integer.MIN_VALUE, Integer.MAX_VALUE};
            return wild[random.nextInt(wild.length)];
        }
        switch (Calls.NAMES[which]) {
            case "node":
                return place == 0 ? random.nextInt(8) : place == 1 ? random.nextInt(4) + 1 : someJobs();
            case "edge":
                return place == 2 ? random.nextInt(5) - 1 : random.nextInt(8);
            case "told":
                return place == 0 ? random.nextInt(8) : random.nextInt(19);
            case "run":
                return place == 0 ? random.nextInt(3) : random.nextInt(random.nextInt(4) == 0 ? 51 : 6);
            case "share":
                return place == 0 ? random.nextInt(8) : random.nextInt(2);
            case "ideal":
                return place == 0 ? random.nextInt(8) : place == 1 ? random.nextInt(9) : random.nextInt(2);
            case "until":
                return place == 0 ? random.nextInt(3) : random.nextInt(random.nextInt(2) == 0 ? 6 : 101);
            case "ring":
                return place == 0 ? random.nextInt(3) : random.nextInt(2);
            case "uneven":
            case "image":
            case "restore":
                return random.nextInt(2);
            default:
                return random.nextInt(8);
        }
    }

    private int someJobs() {
        if (fewJobs) {
            return Math.max(random.nextInt(8) - 5, 0);
        }
        int kind = random.nextInt(3);
        return kind == 0 ? 0 : kind == 1 ? random.nextInt(12) : random.nextInt(1001);
    }

    private void call(int which, int p, int q, int r) {
        if (calls >= CALLS || CHECK.isWrong()) {
            return;
        }
        calls++;
        long got = Calls.call(x, which, p, q, r);
        long want = ofModel(which, p, q, r);
        CHECK.due(Calls.NAMES[which] + "(" + p + ", " + q + ", " + r + ") as call " + calls, got, want);
        reached.merge(Calls.NAMES[which] + (want < 0 ? " " + want : " ok"), 1, Integer::sum);
    }

    private long ofModel(int which, int p, int q, int r) {
        switch (which) {
            case 0: return model.node(p, q, r);
            case 1: return model.edge(p, q, r);
            case 2: return model.say(p);
            case 3: return model.wipe();
            case 4: return model.fault();
            case 5: return model.net();
            case 6: return model.jobs(p);
            case 7: return model.told(p, q);
            case 8: return model.carry(p, q);
            case 9: return model.run(p, q);
            case 10: return model.reset();
            case 11: return model.uneven(p);
            case 12: return model.share(p, q);
            case 13: return model.potential();
            case 14: return model.ideal(p, q, r);
            case 15: return model.until(p, q);
            case 16: return model.ring(p, q);
            case 17: return model.image(p);
            case 18: return model.restore(p);
            default: return model.count(p);
        }
    }
}
