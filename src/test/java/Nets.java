/** Nets that several tests start from. */
final class Nets {
    private Nets() {
    }

    static void say(JobSpread x, String text) {
        for (int i = 0; i < text.length(); i++) {
            x.say(text.charAt(i));
        }
    }

    static JobSpread of(String edges) {
        JobSpread x = new JobSpread();
        say(x, edges);
        x.net();
        return x;
    }

    /** b, c and d are fast and each draws a job from a behind the fourth round of FLOW: a has -2 then. */
    static JobSpread withJobsBelowZero() {
        JobSpread x = of("ab0ac0ad0");
        x.node(0, 1, 1);
        x.node(1, 4, 0);
        x.node(2, 4, 0);
        x.node(3, 4, 0);
        x.run(0, 4);
        return x;
    }

    /** The jobs of all nodes as one text, such as "3 4 0 0 0 0 0 0". */
    static String jobs(JobSpread x) {
        StringBuilder text = new StringBuilder();
        for (int i = 0; i < 8; i++) {
            text.append(i == 0 ? "" : " ").append(x.jobs(i) - 10000);
        }
        return text.toString();
    }

    /** All that can be told of an object without changing it, but for what looks ahead. */
    static String view(JobSpread x) {
        StringBuilder text = new StringBuilder(jobs(x));
        for (int i = 0; i < 8; i++) {
            text.append(" |");
            for (int what = 0; what < 18; what++) {
                text.append(' ').append(x.told(i, what));
            }
            for (int other = 0; other < 8; other++) {
                text.append(' ').append(x.carry(i, other));
            }
        }
        for (int what = 0; what < 8; what++) {
            text.append(" c").append(x.count(what));
        }
        return text.append(" f").append(x.fault()).toString();
    }
}
