/** All that can be told of an object, in parts of which each stays within its 512 calls. */
enum Probe {
    VIEW, PAD, ROTORS, FIRST_IMAGE, SECOND_IMAGE, AHEAD;

    String of(JobSpread x) {
        switch (this) {
            case VIEW:
                return Nets.view(x);
            case PAD:
                return x.fault() + " " + x.net() + " " + Nets.view(x);
            case ROTORS:
                return rotors(x);
            case FIRST_IMAGE:
                return x.restore(0) + " " + Nets.view(x);
            case SECOND_IMAGE:
                return x.restore(1) + " " + Nets.view(x);
            default:
                return ahead(x);
        }
    }

    // With an edge to each other node no rotor is left over by fewer slots than it can have gone.
    private static String rotors(JobSpread x) {
        StringBuilder text = new StringBuilder();
        for (int i = 0; i < 8; i++) {
            x.wipe();
            Nets.say(x, Nets.star(i));
            x.net();
            text.append(x.told(i, 2)).append(' ');
        }
        return text.toString();
    }

    private static String ahead(JobSpread x) {
        StringBuilder text = new StringBuilder();
        for (int rule = 0; rule < 3; rule++) {
            text.append(x.ring(rule, 0)).append(' ').append(x.ring(rule, 1)).append(' ');
            text.append(x.until(rule, 9)).append(' ').append(x.run(rule, 5)).append(' ');
            text.append(Nets.jobs(x)).append(' ');
        }
        return text.toString();
    }
}
