import java.math.BigInteger;
import java.util.ArrayList;
import java.util.Arrays;
import java.util.List;
import java.util.Map;
import java.util.TreeMap;
import java.util.TreeSet;

/**
 * The document once more, in its most literal form and with the Java library, so that the class can be
 * compared with it: edges are kept by their letters, fractions are made of BigIntegers, and what comes
 * round again is looked for by trying all p and all a.
 */
final class Model {
    private static final int NONE = -6;

    private static final class Edge {
        final int a;
        final int b;
        int colour;
        BigInteger carry = BigInteger.ZERO;

        Edge(int a, int b, int colour) {
            this.a = a;
            this.b = b;
            this.colour = colour;
        }
    }

    private static final class Things {
        int[] speed = {1, 1, 1, 1, 1, 1, 1, 1};
        int[] jobs = new int[8];
        int[] rotor = new int[8];
        TreeMap<String, Edge> edges = new TreeMap<>();
        int rounds = 0;

        Things copy() {
            Things other = new Things();
            other.speed = speed.clone();
            other.jobs = jobs.clone();
            other.rotor = rotor.clone();
            for (Map.Entry<String, Edge> entry : edges.entrySet()) {
                Edge edge = entry.getValue();
                Edge twin = new Edge(edge.a, edge.b, edge.colour);
                twin.carry = edge.carry;
                other.edges.put(entry.getKey(), twin);
            }
            other.rounds = rounds;
            return other;
        }

        List<Integer> neighbours(int node) {
            TreeSet<Integer> found = new TreeSet<>();
            for (Edge edge : edges.values()) {
                if (edge.a == node) {
                    found.add(edge.b);
                }
                if (edge.b == node) {
                    found.add(edge.a);
                }
            }
            return new ArrayList<>(found);
        }

        int measure() {
            int most = 0;
            for (int i = 0; i < 8; i++) {
                most = Math.max(most, neighbours(i).size());
            }
            return 4 * (1 + most);
        }

        int colours() {
            int greatest = 0;
            for (Edge edge : edges.values()) {
                greatest = Math.max(greatest, edge.colour);
            }
            return greatest + 1;
        }

        int below() {
            int below = 0;
            for (int one : jobs) {
                below += one < 0 ? 1 : 0;
            }
            return below;
        }

        int sum(int[] row) {
            return Arrays.stream(row).sum();
        }

        int round(int rule) {
            int moved = rule == 0 ? flow() : rule == 1 ? exchange() : rotor();
            rounds++;
            return moved;
        }

        int flow() {
            int[] ahead = jobs.clone();
            BigInteger measure = BigInteger.valueOf(measure());
            int moved = 0;
            for (Edge edge : edges.values()) {
                BigInteger want = edge.carry
                        .add(BigInteger.valueOf((long) ahead[edge.a] * speed[edge.b]))
                        .subtract(BigInteger.valueOf((long) ahead[edge.b] * speed[edge.a]));
                BigInteger[] goAndRest = want.divideAndRemainder(measure);
                edge.carry = goAndRest[1];
                int go = goAndRest[0].intValueExact();
                jobs[edge.a] -= go;
                jobs[edge.b] += go;
                moved += Math.abs(go);
            }
            return moved;
        }

        int exchange() {
            int moved = 0;
            int turn = rounds % colours();
            for (Edge edge : edges.values()) {
                if (edge.colour != turn) {
                    continue;
                }
                int before = jobs[edge.a];
                int all = before + jobs[edge.b];
                int getsA = down(all * speed[edge.a], speed[edge.a] + speed[edge.b]);
                int getsB = down(all * speed[edge.b], speed[edge.a] + speed[edge.b]);
                boolean oneIsLeft = getsA + getsB == all - 1;
                if (oneIsLeft && jobs[edge.b] > jobs[edge.a]) {
                    getsB++;
                } else if (oneIsLeft) {
                    getsA++;
                }
                jobs[edge.a] = getsA;
                jobs[edge.b] = getsB;
                moved += Math.abs(getsA - before);
            }
            return moved;
        }

        static int down(int upper, int lower) {
            int whole = upper / lower;
            return whole * lower > upper ? whole - 1 : whole;
        }

        // One job after the other, as if by hand.
        int rotor() {
            int[] ahead = jobs.clone();
            int moved = 0;
            for (int i = 0; i < 8; i++) {
                if (ahead[i] <= 0) {
                    continue;
                }
                List<Integer> slots = neighbours(i);
                slots.add(i);
                int at = rotor[i] % slots.size();
                for (int job = 0; job < ahead[i]; job++) {
                    int to = slots.get(at);
                    jobs[i]--;
                    jobs[to]++;
                    moved += to == i ? 0 : 1;
                    at = at + 1 == slots.size() ? 0 : at + 1;
                }
                rotor[i] = at;
            }
            return moved;
        }

        BigInteger[] uneven() {
            BigInteger[] best = {BigInteger.ZERO, BigInteger.ONE};
            for (int i = 0; i < 8; i++) {
                for (int j = 0; j < 8; j++) {
                    BigInteger upper = BigInteger.valueOf((long) jobs[i] * speed[j] - (long) jobs[j] * speed[i]);
                    BigInteger lower = BigInteger.valueOf((long) speed[i] * speed[j]);
                    if (upper.multiply(best[1]).compareTo(best[0].multiply(lower)) > 0) {
                        best = new BigInteger[] {upper, lower};
                    }
                }
            }
            return best;
        }

        String trace() {
            StringBuilder text = new StringBuilder(Arrays.toString(jobs));
            for (int i = 0; i < 8; i++) {
                text.append(' ').append(rotor[i] % (neighbours(i).size() + 1));
            }
            for (Edge edge : edges.values()) {
                text.append(' ').append(edge.carry);
            }
            return text.append(' ').append(rounds % colours()).toString();
        }
    }

    private Things now = new Things();
    private final Things[] images = new Things[2];
    private String pad = "";

    private static boolean in(int number, int least, int most) {
        return least <= number && number <= most;
    }

    private static boolean noNode(int number) {
        return !in(number, 0, 7);
    }

    private static String key(int one, int other) {
        return "" + (char) ('a' + Math.min(one, other)) + (char) ('a' + Math.max(one, other));
    }

    private static long part(BigInteger upper, BigInteger lower, int part) {
        BigInteger common = upper.gcd(lower);
        return (part == 0 ? upper : lower).divide(common).longValueExact();
    }

    int node(int node, int speed, int jobs) {
        if (noNode(node)) {
            return -1;
        }
        if (!in(speed, 1, 4) || !in(jobs, 0, 999)) {
            return -2;
        }
        int had = now.jobs[node];
        now.speed[node] = speed;
        now.jobs[node] = jobs;
        return had + 10000;
    }

    int edge(int one, int other, int colour) {
        if (noNode(one) || noNode(other)) {
            return -1;
        }
        if (one == other || !in(colour, -1, 3)) {
            return -2;
        }
        String key = key(one, other);
        if (colour == -1) {
            now.edges.remove(key);
        } else if (!now.edges.containsKey(key) && now.edges.size() == 12) {
            return -4;
        } else {
            now.edges.put(key, new Edge(Math.min(one, other), Math.max(one, other), colour));
        }
        return now.edges.size();
    }

    int say(int sign) {
        if (!in(sign, 33, 126)) {
            return -2;
        }
        if (pad.length() == 40) {
            return -4;
        }
        pad = pad + (char) sign;
        return pad.length();
    }

    int wipe() {
        int had = pad.length();
        pad = "";
        return had;
    }

    int fault() {
        TreeSet<String> met = new TreeSet<>();
        for (int i = 0; i < pad.length(); i++) {
            String edge = pad.substring(i - i % 3, i + 1);
            boolean fits = i < 36 && edge.matches("[a-h]|[a-h][a-h]|[a-h][a-h][0-3]");
            if (fits && i % 3 == 1) {
                fits = edge.charAt(0) != edge.charAt(1) && met.add(key(edge.charAt(0) - 'a', edge.charAt(1) - 'a'));
            }
            if (!fits) {
                return i;
            }
        }
        return pad.length() % 3 == 0 ? NONE : pad.length();
    }

    int net() {
        if (fault() != NONE) {
            return -7;
        }
        now.edges.clear();
        for (String rest = wipedPad(); !rest.isEmpty(); rest = rest.substring(3)) {
            edge(rest.charAt(0) - 'a', rest.charAt(1) - 'a', rest.charAt(2) - '0');
        }
        return now.edges.size();
    }

    private String wipedPad() {
        String text = pad;
        pad = "";
        return text;
    }

    int jobs(int node) {
        return noNode(node) ? -1 : now.jobs[node] + 10000;
    }

    int told(int node, int what) {
        if (noNode(node)) {
            return -1;
        }
        if (!in(what, 0, 2) && !in(what, 10, 17)) {
            return -2;
        }
        if (what >= 10) {
            Edge edge = now.edges.get(key(node, what - 10));
            return edge == null ? NONE : edge.colour;
        }
        int degree = now.neighbours(node).size();
        return what == 0 ? now.speed[node] : what == 1 ? degree : now.rotor[node] % (degree + 1);
    }

    int carry(int one, int other) {
        if (noNode(one) || noNode(other)) {
            return -1;
        }
        if (one == other) {
            return -2;
        }
        Edge edge = now.edges.get(key(one, other));
        return edge == null ? NONE : edge.carry.intValueExact() + 10000;
    }

    int run(int rule, int n) {
        if (!in(rule, 0, 2) || !in(n, 1, 50)) {
            return -2;
        }
        int moved = 0;
        for (int i = 0; i < n; i++) {
            moved += now.round(rule);
        }
        return moved;
    }

    int reset() {
        int had = now.rounds;
        now.rounds = 0;
        now.rotor = new int[8];
        for (Edge edge : now.edges.values()) {
            edge.carry = BigInteger.ZERO;
        }
        return had;
    }

    int uneven(int part) {
        if (!in(part, 0, 1)) {
            return -2;
        }
        BigInteger[] uneven = now.uneven();
        return Math.toIntExact(part(uneven[0], uneven[1], part));
    }

    int share(int node, int part) {
        if (noNode(node)) {
            return -1;
        }
        if (!in(part, 0, 1)) {
            return -2;
        }
        int all = now.sum(now.jobs);
        if (all < 0) {
            return -3;
        }
        BigInteger upper = BigInteger.valueOf((long) all * now.speed[node]);
        return Math.toIntExact(part(upper, BigInteger.valueOf(now.sum(now.speed)), part));
    }

    long potential() {
        BigInteger sum = BigInteger.ZERO;
        for (int i = 0; i < 8; i++) {
            long off = (long) now.jobs[i] * now.sum(now.speed) - (long) now.sum(now.jobs) * now.speed[i];
            sum = sum.add(BigInteger.valueOf(off).pow(2));
        }
        return sum.longValueExact();
    }

    long ideal(int node, int r, int part) {
        if (noNode(node)) {
            return -1;
        }
        if (!in(r, 0, 8) || !in(part, 0, 1)) {
            return -2;
        }
        if (now.below() > 0) {
            return -3;
        }
        BigInteger[] upper = new BigInteger[8];
        BigInteger lower = BigInteger.ONE;
        for (int i = 0; i < 8; i++) {
            upper[i] = BigInteger.valueOf(now.jobs[i]);
        }
        BigInteger measure = BigInteger.valueOf(now.measure());
        for (int round = 0; round < r; round++) {
            BigInteger[] next = new BigInteger[8];
            for (int i = 0; i < 8; i++) {
                next[i] = upper[i].multiply(measure);
                for (int j : now.neighbours(i)) {
                    next[i] = next[i].subtract(upper[i].multiply(BigInteger.valueOf(now.speed[j])))
                            .add(upper[j].multiply(BigInteger.valueOf(now.speed[i])));
                }
            }
            upper = next;
            lower = lower.multiply(measure);
        }
        return part(upper[node], lower, part);
    }

    int until(int rule, int d) {
        if (!in(rule, 0, 2) || !in(d, 0, 99)) {
            return -2;
        }
        Things ahead = now.copy();
        for (int rounds = 0; rounds <= 200; rounds++) {
            BigInteger[] uneven = ahead.uneven();
            if (uneven[0].compareTo(uneven[1].multiply(BigInteger.valueOf(d))) <= 0) {
                return rounds;
            }
            ahead.round(rule);
        }
        return NONE;
    }

    int ring(int rule, int what) {
        if (!in(rule, 0, 2) || !in(what, 0, 1)) {
            return -2;
        }
        Things ahead = now.copy();
        String[] traces = new String[301];
        for (int i = 0; i <= 300; i++) {
            traces[i] = ahead.trace();
            ahead.round(rule);
        }
        for (int p = 1; p <= 300; p++) {
            for (int a = 0; a + p <= 300; a++) {
                if (traces[a].equals(traces[a + p])) {
                    return what == 0 ? a : p;
                }
            }
        }
        return NONE;
    }

    int image(int k) {
        if (!in(k, 0, 1)) {
            return -2;
        }
        images[k] = now.copy();
        return 1;
    }

    int restore(int k) {
        if (!in(k, 0, 1)) {
            return -2;
        }
        if (images[k] == null) {
            return -3;
        }
        now = images[k].copy();
        return 1;
    }

    int count(int what) {
        int[] counts = {now.edges.size(), pad.length(), now.rounds, now.sum(now.jobs) + 10000, now.measure(),
            now.colours(), now.below(), (images[0] == null ? 0 : 1) + (images[1] == null ? 0 : 2)};
        return in(what, 0, 7) ? counts[what] : -2;
    }
}
