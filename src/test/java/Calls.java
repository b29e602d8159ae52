/** Every call by its number, so that tests can draw calls at random. */
final class Calls {
    static final String[] NAMES = {"node", "edge", "say", "wipe", "fault", "net", "jobs", "told",
        "carry", "run", "reset", "uneven", "share", "potential", "ideal", "until", "ring", "image",
        "restore", "count"};

    private Calls() {
    }

    static long call(JobSpread x, int which, int p, int q, int r) {
        switch (which) {
            case 0: return x.node(p, q, r);
            case 1: return x.edge(p, q, r);
            case 2: return x.say(p);
            case 3: return x.wipe();
            case 4: return x.fault();
            case 5: return x.net();
            case 6: return x.jobs(p);
            case 7: return x.told(p, q);
            case 8: return x.carry(p, q);
            case 9: return x.run(p, q);
            case 10: return x.reset();
            case 11: return x.uneven(p);
            case 12: return x.share(p, q);
            case 13: return x.potential();
            case 14: return x.ideal(p, q, r);
            case 15: return x.until(p, q);
            case 16: return x.ring(p, q);
            case 17: return x.image(p);
            case 18: return x.restore(p);
            default: return x.count(p);
        }
    }
}
