/** Nets that several tests start from. */
final class Nets {
    /** Twelve edges: all that a pad and a net can take. Between b and h there is none. */
    static final String TWELVE = "ab0ac1ad2ae3af0ag1ah2bc3bd0be1bf2bg3";

    private Nets() {
    }

    static void say(JobSpread x, String text) {
        for (int i = 0; i < text.length(); i++) {
            x.say(text.charAt(i));
        }
    }

    static JobSpread of(String edges) {
        JobSpread x = new JobSpread();
        say(x, edges);
        x.net();
        return x;
    }

    /** The text of seven edges, from one node to each other. */
    static String star(int node) {
        StringBuilder text = new StringBuilder();
        for (int other = 0; other < 8; other++) {
            if (other != node) {
                text.append((char) ('a' + node)).append((char) ('a' + other)).append('0');
            }
        }
        return text.toString();
    }

    /** Something of all: carries, rotors, rounds, two unlike images, a pad that tells two edges. */
    static JobSpread busy() {
        JobSpread x = of("ab0bc3cd1");
        x.node(0, 3, 100);
        x.node(2, 1, 51);
        x.run(2, 1);
        x.image(0);
        x.run(0, 7);
        x.edge(4, 5, 2);
        x.image(1);
        x.node(4, 2, 7);
        x.run(2, 2);
        say(x, "ef2gh1");
        return x;
    }

    /** Twelve edges, and forty signs on the pad. */
    static JobSpread full() {
        JobSpread x = of(TWELVE);
        x.node(0, 2, 100);
        x.node(5, 3, 9);
        x.run(2, 1);
        x.run(0, 1);
        x.image(1);
        say(x, TWELVE + "ch0c");
        return x;
    }

    /** b, c and d are fast and each draws a job from a behind the fourth round of FLOW: a has -2 then. */
    static JobSpread withJobsBelowZero() {
        JobSpread x = of("ab0ac0ad0");
        x.node(0, 1, 1);
        x.node(1, 4, 0);
        x.node(2, 4, 0);
        x.node(3, 4, 0);
        x.run(0, 4);
        return x;
    }

    /** b and c are fast and each draws a job from a behind the third round of FLOW: a has -1 then. */
    static JobSpread withOneBelowZero() {
        JobSpread x = of("ab0ac0");
        x.node(0, 1, 1);
        x.node(1, 4, 0);
        x.node(2, 4, 0);
        x.run(0, 3);
        return x;
    }

    /** The jobs of all nodes as one text, such as "3 4 0 0 0 0 0 0". */
    static String jobs(JobSpread x) {
        StringBuilder text = new StringBuilder();
        for (int i = 0; i < 8; i++) {
            text.append(i == 0 ? "" : " ").append(x.jobs(i) - 10000);
        }
        return text.toString();
    }

    /** All that can be told of an object without changing it, but for what looks ahead, in 125 calls. */
    static String view(JobSpread x) {
        StringBuilder text = new StringBuilder(jobs(x));
        for (int i = 0; i < 8; i++) {
            text.append(" |");
            for (int what = 0; what < 3; what++) {
                text.append(' ').append(x.told(i, what));
            }
            for (int other = 0; other < 8; other++) {
                if (other != i) {
                    text.append(' ').append(x.told(i, 10 + other));
                }
                if (other > i) {
                    text.append(' ').append(x.carry(i, other));
                }
            }
        }
        for (int what = 0; what < 8; what++) {
            text.append(" c").append(x.count(what));
        }
        return text.append(" f").append(x.fault()).toString();
    }
}
