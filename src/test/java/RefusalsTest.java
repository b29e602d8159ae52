import java.util.ArrayList;
import java.util.Arrays;
import java.util.EnumMap;
import java.util.List;
import java.util.Map;

/** Which refusal each call answers, in all mixtures of numbers at their edges, in several states. */
public final class RefusalsTest {
    private static final Sentences T = new Sentences("RefusalsTest");
    private static final int NO_REFUSAL = 0;
    // With the calls that make a state and those of the longest probe this stays within 512.
    private static final int CALLS_ON_ONE = 200;
    private static final List<String> MAY_ANSWER_NONE = Arrays.asList("fault", "told", "carry", "until", "ring");

    /** The numbers that calls take, from the least to the most. */
    private enum Kind {
        NODE(0, 7), SPEED(1, 4), JOBS(0, 999), COLOUR(-1, 3), SIGN(33, 126), TOLD(0, 17), RULE(0, 2),
        ROUNDS(1, 50), PART(0, 1), AHEAD(0, 8), BOUND(0, 99), RING(0, 1), IMAGE(0, 1), COUNT(0, 7);

        private final int least;
        private final int most;

        Kind(int least, int most) {
            this.least = least;
            this.most = most;
        }

        boolean fits(int number) {
            boolean isGap = this == TOLD && number > 2 && number < 10;
            return number >= least && number <= most && !isGap;
        }

        int[] tried() {
            if (this == NODE) {
                return new int[] {Integer.MIN_VALUE, -1, 0, 1, 2, 3, 4, 5, 6, 7, 8, Integer.MAX_VALUE};
            }
            if (this == TOLD) {
                return new int[] {Integer.MIN_VALUE, -1, 0, 1, 2, 3, 9, 10, 17, 18, Integer.MAX_VALUE};
            }
            return new int[] {Integer.MIN_VALUE, least - 1, least, least + 1, most - 1, most, most + 1,
                Integer.MAX_VALUE};
        }
    }

    // What each call takes, in the order of Calls.NAMES.
    private static final Kind[][] TAKES = {{Kind.NODE, Kind.SPEED, Kind.JOBS}, {Kind.NODE, Kind.NODE, Kind.COLOUR},
        {Kind.SIGN}, {}, {}, {}, {Kind.NODE}, {Kind.NODE, Kind.TOLD}, {Kind.NODE, Kind.NODE},
        {Kind.RULE, Kind.ROUNDS}, {}, {Kind.PART}, {Kind.NODE, Kind.PART}, {}, {Kind.NODE, Kind.AHEAD, Kind.PART},
        {Kind.RULE, Kind.BOUND}, {Kind.RULE, Kind.RING}, {Kind.IMAGE}, {Kind.IMAGE}, {Kind.COUNT}};

    /** States, with what refusals hang on. */
    private enum State {
        NEW("", 0, false, 0, 0), BUSY("ab0bc3cd1ef2", 6, false, 0, 3), FULL(Nets.TWELVE, 40, true, 0, 2),
        SOME_BELOW("ab0ac0", 1, true, 1, 1), ALL_BELOW("ab0ac0", 0, false, 2, 0);

        private final String edges;
        private final int signs;
        private final boolean isFaulty;
        // 1: some node has jobs below 0; 2: all jobs together are.
        private final int below;
        private final int kept;

        State(String edges, int signs, boolean isFaulty, int below, int kept) {
            this.edges = edges;
            this.signs = signs;
            this.isFaulty = isFaulty;
            this.below = below;
            this.kept = kept;
        }

        JobSpread make() {
            switch (this) {
                case NEW:
                    return new JobSpread();
                case BUSY:
                    return Nets.busy();
                case FULL:
                    return Nets.full();
                default:
                    return belowZero();
            }
        }

        private JobSpread belowZero() {
            JobSpread x = Nets.withOneBelowZero();
            if (this == ALL_BELOW) {
                x.node(1, 1, 0);
                x.node(2, 1, 0);
            } else {
                x.say('a');
                x.image(0);
            }
            return x;
        }

        boolean joins(int one, int other) {
            String a = "" + (char) ('a' + Math.min(one, other));
            return edges.contains(a + (char) ('a' + Math.max(one, other)));
        }
    }

    public static void main(String[] args) {
        statesAreAsSaid();
        theFirstThatFits();
        noneOnlyWhereNoRefusalFits();
        changesNothing();
        T.end();
    }

    private static void statesAreAsSaid() {
        T.begin(Sentences.NO_PROMISE, "STATE -3, FULL -4 (as told with the call)");
        for (State state : State.values()) {
            JobSpread x = state.make();
            T.due(x, "count(0)", state.edges.length() / 3);
            T.due(x, "count(1)", state.signs);
            T.holds(state + " has jobs below 0", x.count(6) > 0 == state.below > 0);
            T.holds(state + " has all jobs together below 0", x.count(3) < 10000 == state.below > 1);
            T.due(x, "count(7)", state.kept);
            for (int a = 0; a < 8; a++) {
                for (int b = a + 1; b < 8; b++) {
                    T.holds(state + " joins " + a + " " + b, x.carry(b, a) >= 0 == state.joins(b, a));
                }
            }
        }
    }

    private static List<int[]> mixtures(Kind[] kinds) {
        List<int[]> mixtures = new ArrayList<>();
        mixtures.add(new int[0]);
        for (Kind kind : kinds) {
            List<int[]> longer = new ArrayList<>();
            for (int[] mixture : mixtures) {
                for (int number : kind.tried()) {
                    int[] one = Arrays.copyOf(mixture, mixture.length + 1);
                    one[mixture.length] = number;
                    longer.add(one);
                }
            }
            mixtures = longer;
        }
        return mixtures;
    }

    private static String text(int which, int[] numbers) {
        String inside = Arrays.toString(numbers);
        return Calls.NAMES[which] + "(" + inside.substring(1, inside.length() - 1) + ")";
    }

    private static int refusal(State state, int which, int[] numbers) {
        boolean isOutside = false;
        for (int i = 0; i < numbers.length; i++) {
            Kind kind = TAKES[which][i];
            if (kind == Kind.NODE && !kind.fits(numbers[i])) {
                return JobSpread.UNKNOWN;
            }
            isOutside |= !kind.fits(numbers[i]);
        }
        boolean takesTwoNodes = numbers.length > 1 && TAKES[which][1] == Kind.NODE;
        if (isOutside || takesTwoNodes && numbers[0] == numbers[1]) {
            return JobSpread.OUTSIDE;
        }
        return refusalByState(state, Calls.NAMES[which], numbers);
    }

    private static int refusalByState(State state, String call, int[] numbers) {
        switch (call) {
            case "edge":
                boolean isOther = numbers[2] >= 0 && !state.joins(numbers[0], numbers[1]);
                return isOther && state.edges.length() == 36 ? JobSpread.FULL : NO_REFUSAL;
            case "say":
                return state.signs == 40 ? JobSpread.FULL : NO_REFUSAL;
            case "net":
                return state.isFaulty ? JobSpread.FAULT : NO_REFUSAL;
            case "share":
                return state.below > 1 ? JobSpread.STATE : NO_REFUSAL;
            case "ideal":
                return state.below > 0 ? JobSpread.STATE : NO_REFUSAL;
            case "restore":
                return (state.kept >> numbers[0] & 1) == 0 ? JobSpread.STATE : NO_REFUSAL;
            default:
                return NO_REFUSAL;
        }
    }

    private static void theFirstThatFits() {
        T.begin(Sentences.NO_PROMISE, "Calls that are refused answer the first that fits, in the order in which they"
                + " are told with the call: UNKNOWN -1 (no such NODE), OUTSIDE -2 (another number is not as told),"
                + " FAULT -7 (THE PAD is not as told)");
        for (State state : State.values()) {
            for (int which = 0; which < TAKES.length; which++) {
                for (int[] numbers : mixtures(TAKES[which])) {
                    int refusal = refusal(state, which, numbers);
                    if (refusal != NO_REFUSAL) {
                        T.due(state.make(), text(which, numbers), refusal);
                    }
                }
            }
        }
    }

    private static void noneOnlyWhereNoRefusalFits() {
        T.begin(Sentences.NO_PROMISE, "NONE -6 is told only where no refusal fits.");
        for (State state : State.values()) {
            for (int which = 0; which < TAKES.length; which++) {
                boolean mayBeNone = MAY_ANSWER_NONE.contains(Calls.NAMES[which]);
                for (int[] numbers : mixtures(TAKES[which])) {
                    if (refusal(state, which, numbers) == NO_REFUSAL) {
                        String call = text(which, numbers);
                        long answer = Calls.byText(state.make(), call);
                        T.holds(state + ": " + call + " is not refused, but answers " + answer,
                                answer >= 0 || mayBeNone && answer == JobSpread.NONE);
                    }
                }
            }
        }
    }

    private static List<String> allRefused(State state) {
        List<String> calls = new ArrayList<>();
        for (int which = 0; which < TAKES.length; which++) {
            for (int[] numbers : mixtures(TAKES[which])) {
                if (refusal(state, which, numbers) != NO_REFUSAL) {
                    calls.add(text(which, numbers));
                }
            }
        }
        return calls;
    }

    private static void changesNothing() {
        T.begin(Sentences.NO_PROMISE, "What is refused changes nothing.");
        for (State state : State.values()) {
            Map<Probe, String> untouched = new EnumMap<>(Probe.class);
            for (Probe probe : Probe.values()) {
                untouched.put(probe, probe.of(state.make()));
            }
            List<String> calls = allRefused(state);
            for (int from = 0; from < calls.size(); from += CALLS_ON_ONE) {
                List<String> some = calls.subList(from, Math.min(from + CALLS_ON_ONE, calls.size()));
                for (Probe probe : Probe.values()) {
                    JobSpread x = state.make();
                    for (String call : some) {
                        Calls.byText(x, call);
                    }
                    T.same(state + ": " + probe + " behind refused calls from " + some.get(0) + " on", probe.of(x),
                            untouched.get(probe));
                }
            }
        }
    }
}
