/** The edges of promises 4, 5, 6, 7: say, wipe, fault, net. */
public final class BoundaryPadTest {
    private static final Sentences T = new Sentences("BoundaryPadTest");
    private static final int OUTSIDE = JobSpread.OUTSIDE;
    private static final int FULL = JobSpread.FULL;
    private static final int FAULT = JobSpread.FAULT;
    private static final int NONE = JobSpread.NONE;
    private static final String TWELVE = Nets.TWELVE;

    public static void main(String[] args) {
        say();
        wipe();
        fault();
        net();
        T.end(4, 5, 6, 7);
    }

    private static JobSpread withPad(String text) {
        JobSpread x = new JobSpread();
        Nets.say(x, text);
        return x;
    }

    // ---- promise 4

    private static void say() {
        saySignsFromFirstToLast();
        sayOutside();
        sayIsTheFortiethAtMost();
        sayRefusalsInOrder();
        sayGoesOnBehindAnEmptiedPad();
        sayChangesThePadAlone();
    }

    private static void saySignsFromFirstToLast() {
        T.begin(4, "A sign more on THE PAD: how many.");
        for (int sign = 33; sign <= 126; sign++) {
            JobSpread x = new JobSpread();
            T.due(x, "say(" + sign + ")", 1);
            T.due(x, "say(" + sign + ")", 2);
            T.due(x, "count(1)", 2);
        }
    }

    private static void sayOutside() {
        T.begin(4, "OUTSIDE: it is not 33 to 126");
        T.refused(Nets::busy, "say(32)", OUTSIDE);
        T.refused(Nets::busy, "say(127)", OUTSIDE);
        for (int sign : new int[] {-1, 0, 9, 10, 128, 97 - 256, 97 + 256, 97 + 65536}) {
            T.refused(Nets::busy, "say(" + sign + ")", OUTSIDE);
        }
        for (int far : Sentences.FAR) {
            T.due(Nets.busy(), "say(" + far + ")", OUTSIDE);
        }
    }

    private static void sayIsTheFortiethAtMost() {
        T.begin(4, "FULL: there are 40.");
        JobSpread x = new JobSpread();
        for (int i = 1; i <= 40; i++) {
            T.due(x, "say(97)", i);
        }
        T.due(x, "say(97)", FULL);
        T.due(x, "count(1)", 40);
        T.refused(Nets::full, "say(97)", FULL);
        T.refused(Nets::full, "say(33)", FULL);
        T.refused(Nets::full, "say(126)", FULL);
    }

    private static void sayRefusalsInOrder() {
        T.begin(4, "OUTSIDE: it is not 33 to 126; FULL: there are 40.");
        T.refused(Nets::full, "say(32)", OUTSIDE);
        T.refused(Nets::full, "say(127)", OUTSIDE);
    }

    private static void sayGoesOnBehindAnEmptiedPad() {
        T.begin(4, "THE PAD (up to 40 signs)");
        JobSpread x = Nets.full();
        x.wipe();
        T.due(x, "say(97)", 1);
        JobSpread y = withPad(TWELVE);
        y.net();
        for (int i = 1; i <= 40; i++) {
            T.due(y, "say(98)", i);
        }
        T.due(y, "say(98)", FULL);
    }

    private static void sayChangesThePadAlone() {
        T.begin(4, "A sign more on THE PAD");
        JobSpread x = Nets.busy();
        x.wipe();
        JobSpread y = Nets.busy();
        y.say('x');
        y.wipe();
        T.same("all but the pad", Nets.view(y), Nets.view(x));
    }

    // ---- promise 5

    private static void wipe() {
        wipeTellsHowMany();
        wipeChangesThePadAlone();
    }

    private static void wipeTellsHowMany() {
        T.begin(5, "THE PAD is empty: how many signs it had.");
        T.due(new JobSpread(), "wipe()", 0);
        T.due(withPad("a"), "wipe()", 1);
        JobSpread x = Nets.full();
        T.due(x, "wipe()", 40);
        T.due(x, "wipe()", 0);
        T.due(x, "count(1)", 0);
        T.due(x, "fault()", NONE);
        JobSpread y = withPad("ab0");
        y.net();
        T.due(y, "wipe()", 0);
    }

    private static void wipeChangesThePadAlone() {
        T.begin(5, "THE PAD is empty");
        String before = withoutPad(Nets.full());
        JobSpread x = Nets.full();
        x.wipe();
        T.same("all but the pad", withoutPad(x), before);
        JobSpread none = Nets.busy();
        none.wipe();
        T.due(none, "wipe()", 0);
        T.due(none, "count(7)", 3);
    }

    private static String withoutPad(JobSpread x) {
        return Nets.view(x).replaceAll(" c.*", "") + " " + x.count(0) + " " + x.count(2) + " " + x.count(3);
    }

    // ---- promise 6

    private static void fault() {
        faultOfEmptyPad();
        faultOfEdgesUpToTwelve();
        faultOfLetters();
        faultOfLettersAlike();
        faultOfFigures();
        faultOfNodesToldTwice();
        faultOfThirteenth();
        faultOfWhatIsNotToldToItsEnd();
        faultIsTheFirst();
        faultChangesNothing();
    }

    private static void fault(String pad, int due) {
        T.due(withPad(pad), "fault()", due);
    }

    private static void faultOfEmptyPad() {
        T.begin(6, "how many signs it has; NONE: there is none.");
        fault("", NONE);
        JobSpread x = withPad("x");
        x.wipe();
        T.due(x, "fault()", NONE);
        JobSpread y = withPad("ab0");
        y.net();
        T.due(y, "fault()", NONE);
    }

    private static void faultOfEdgesUpToTwelve() {
        T.begin(6, "tells EDGES, 0 to 12");
        for (int edges = 0; edges <= 12; edges++) {
            fault(TWELVE.substring(0, 3 * edges), NONE);
        }
    }

    private static void faultOfLetters() {
        T.begin(6, "each by two letters a to h");
        for (char sign = 33; sign <= 126; sign++) {
            boolean letter = sign >= 'a' && sign <= 'h';
            fault("" + sign, letter ? 1 : 0);
            fault("ab0" + sign, letter ? 4 : 3);
            boolean second = letter && sign != 'd';
            fault("d" + sign, second ? 2 : 1);
            fault("ab0d" + sign, second ? 5 : 4);
        }
    }

    private static void faultOfLettersAlike() {
        T.begin(6, "not alike");
        for (char sign = 'a'; sign <= 'h'; sign++) {
            fault("" + sign + sign, 1);
            fault("" + sign + sign + "0", 1);
        }
        fault("ab0cc0", 4);
    }

    private static void faultOfFigures() {
        T.begin(6, "and a figure 0 to 3, its COLOUR");
        for (char sign = 33; sign <= 126; sign++) {
            boolean figure = sign >= '0' && sign <= '3';
            fault("ab" + sign, figure ? NONE : 2);
            fault("ab0gh" + sign, figure ? NONE : 5);
        }
    }

    private static void faultOfNodesToldTwice() {
        T.begin(6, "no two NODES are told twice, in whichever order");
        for (char a = 'a'; a <= 'h'; a++) {
            for (char b = 'a'; b <= 'h'; b++) {
                if (a != b) {
                    fault("" + a + b + "0" + a + b, 4);
                    fault("" + a + b + "0" + b + a + "1", 4);
                }
            }
        }
        fault(TWELVE.substring(0, 33) + "ba", 34);
        fault(TWELVE.substring(0, 33) + "fb3", 34);
        // The first letter can stand, though no second one can behind it.
        fault("ab0ac0ad0ae0af0ag0ah0a", 22);
        fault("ab0ac0ad0ae0af0ag0ah0ag", 22);
    }

    private static void faultOfThirteenth() {
        T.begin(6, "(of two NODES told before the second letter; the first letter of a thirteenth)");
        fault(TWELVE, NONE);
        for (char sign = 33; sign <= 126; sign++) {
            fault(TWELVE + sign, 36);
        }
        fault(TWELVE + "ch", 36);
        fault(TWELVE + "ch0", 36);
        fault(TWELVE + "ch0c", 36);
        fault(TWELVE + "abcd", 36);
    }

    private static void faultOfWhatIsNotToldToItsEnd() {
        T.begin(6, "if there is none such, and more must come, how many signs it has");
        for (int signs = 1; signs < 36; signs++) {
            fault(TWELVE.substring(0, signs), signs % 3 == 0 ? NONE : signs);
        }
    }

    private static void faultIsTheFirst() {
        T.begin(6, "THE FAULT of THE PAD: the place, from 0 on, of the first sign that can not stand there");
        fault("!", 0);
        fault("!!!", 0);
        fault("a!!", 1);
        fault("ab!!", 2);
        fault("aa4", 1);
        fault("ab4ab", 2);
        fault("ab0ba4x", 4);
        fault("ab0!" + TWELVE, 3);
        fault("0ab", 0);
        fault("abc", 2);
        fault("a0b", 1);
        fault("z" + TWELVE + "abc", 0);
        fault(TWELVE.substring(0, 35) + "4abcd", 35);
    }

    private static void faultChangesNothing() {
        T.begin(6, "THE FAULT of THE PAD; NONE.");
        T.changesNothing(Nets::busy, "fault()");
        T.changesNothing(Nets::full, "fault()");
    }

    // ---- promise 7

    private static void net() {
        netOfEmptyPad();
        netOfTwelve();
        netEmptiesThePad();
        netLaysAnew();
        netRefuses();
        netLeavesTheRest();
    }

    private static void netOfEmptyPad() {
        T.begin(7, "others go: how many there are.");
        T.due(new JobSpread(), "net()", 0);
        JobSpread x = Nets.of(TWELVE);
        T.due(x, "count(0)", 12);
        T.due(x, "net()", 0);
        T.due(x, "count(0)", 0);
        for (int i = 0; i < 8; i++) {
            T.due(x, "told(" + i + ", 1)", 0);
        }
    }

    private static void netOfTwelve() {
        T.begin(7, "EDGES are those that THE PAD tells");
        JobSpread x = withPad(TWELVE);
        T.due(x, "net()", 12);
        T.due(x, "told(0, 1)", 7);
        T.due(x, "told(6, 11)", 3);
        // Twelve others, though there are twelve.
        Nets.say(x, "cd0ce0cf0cg0ch0de0df0dg0dh0ef0eg0hg3");
        T.due(x, "net()", 12);
        T.due(x, "told(0, 1)", 0);
        T.due(x, "told(1, 1)", 0);
        T.due(x, "told(2, 1)", 5);
        T.due(x, "told(6, 17)", 3);
    }

    private static void netEmptiesThePad() {
        T.begin(7, "which is empty then");
        JobSpread x = withPad("ab0");
        T.due(x, "net()", 1);
        T.due(x, "count(1)", 0);
        T.due(x, "wipe()", 0);
        T.due(x, "say(97)", 1);
    }

    private static void netLaysAnew() {
        T.begin(7, "all are laid anew");
        JobSpread x = Nets.of("ab0");
        x.node(0, 1, 5);
        x.run(0, 1);
        T.due(x, "carry(0, 1)", 10005);
        Nets.say(x, "ab0");
        T.due(x, "net()", 1);
        T.due(x, "carry(0, 1)", 10000);
        x.run(0, 1);
        x.net();
        Nets.say(x, "ba0");
        T.due(x, "net()", 1);
        T.due(x, "carry(0, 1)", 10000);
    }

    private static JobSpread busyWithPad(String text) {
        JobSpread x = Nets.busy();
        x.wipe();
        Nets.say(x, text);
        return x;
    }

    private static void netRefuses() {
        T.begin(7, "FAULT.");
        String[] faulty = {"a", "ef", "ef0g", "ef0gh", "i", "ee0", "ef4", "ef0fe1", "ef0ef0", "ab0x",
            TWELVE.substring(0, 35), TWELVE + "c", TWELVE + "ch0", TWELVE + "ch0c"};
        for (String text : faulty) {
            T.refused(() -> busyWithPad(text), "net()", FAULT);
            JobSpread x = busyWithPad(text);
            T.due(x, "net()", FAULT);
            T.due(x, "wipe()", text.length());
        }
        T.refused(Nets::full, "net()", FAULT);
    }

    private static void netLeavesTheRest() {
        T.begin(7, "EDGES that are laid, or go, do not change it");
        String rotors = Probe.ROTORS.of(Nets.busy());
        JobSpread x = Nets.busy();
        int rounds = x.count(2);
        String jobs = Nets.jobs(x);
        T.due(x, "net()", 2);
        T.due(x, "count(2)", rounds);
        T.due(x, "count(7)", 3);
        T.jobs(x, jobs);
        T.holds("some rotor has gone on", !rotors.equals("0 0 0 0 0 0 0 0 "));
        T.same("rotors", Probe.ROTORS.of(x), rotors);
    }
}
