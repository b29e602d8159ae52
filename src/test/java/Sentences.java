/**
 * Tests by the sentences of the document. Each test begins with the promise that it belongs to and the
 * words that it holds the class to; both stand in what is printed when an answer is not the one due.
 */
final class Sentences {
    /** Makes an object in a state from which a test starts, always the same one. */
    interface Start {
        JobSpread make();
    }

    /** Numbers far from all limits, some of which look like good ones when bits are cut off. */
    static final int[] FAR = {Integer.MIN_VALUE, Integer.MIN_VALUE + 1, -256, 256, 1 << 16, 1 << 30,
        Integer.MAX_VALUE - 1, Integer.MAX_VALUE};

    private static final int PROMISES = 21;
    /** For words that stand ahead of the promises and belong to all of them. */
    static final int NO_PROMISE = 0;
    // Which answers below 0 the document tells with each promise, from promise 1 on.
    private static final int[][] TOLD_WITH = {{}, {-1, -2}, {-1, -2, -4}, {-2, -4}, {}, {-6}, {-7}, {-1},
        {-1, -2, -6}, {-1, -2, -6}, {-2}, {}, {-2}, {-1, -2, -3}, {}, {-1, -2, -3}, {-2, -6}, {-2, -6}, {-2},
        {-2, -3}, {-2}};

    private final Check check;
    private final Document document = Document.read();
    // By promise, and by the number that was answered without its sign.
    private final boolean[][] answered = new boolean[PROMISES + 1][8];
    private final int[] tests = new int[PROMISES + 1];
    private int promise = NO_PROMISE;
    private String words = "";
    private boolean isOpen = false;
    private int askedBefore = 0;

    Sentences(String test) {
        check = new Check(test);
    }

    /** Begins the test of a sentence: words of the document, as they stand there. */
    void begin(int ofPromise, String itsWords) {
        closeLast();
        isOpen = true;
        promise = ofPromise;
        words = itsWords;
        tests[promise]++;
        if (document != null) {
            check.holds(label() + "the document has these words", document.has(words));
        }
        askedBefore = check.asked();
    }

    private void closeLast() {
        if (isOpen) {
            check.holds(label() + "something is asked", check.asked() > askedBefore);
        }
    }

    private String label() {
        return (promise == NO_PROMISE ? "all" : "promise " + promise) + " [" + words + "] ";
    }

    /** A call, written as in Java, and the answer that is due. */
    void due(JobSpread x, String call, long want) {
        note(call, want);
        check.due(label() + call, Calls.byText(x, call), want);
    }

    private void note(String call, long want) {
        boolean isItsOwn = promise >= 2 && call.startsWith(Calls.NAMES[promise - 2] + "(");
        if (isItsOwn && want < 0) {
            answered[promise][(int) -want] = true;
        }
    }

    void same(String what, String got, String want) {
        check.same(label() + what, got, want);
    }

    void holds(String what, boolean is) {
        check.holds(label() + what, is);
    }

    void jobs(JobSpread x, String want) {
        same("jobs", Nets.jobs(x), want);
    }

    /** A fraction that is told by part, such as "share(3, " with its upper and its lower number. */
    void fraction(JobSpread x, String call, long upper, long lower) {
        due(x, call + "0)", upper);
        due(x, call + "1)", lower);
    }

    /** What is refused is answered as due and changes nothing. */
    void refused(Start start, String call, long want) {
        due(start.make(), call, want);
        changesNothing(start, call);
    }

    /** An object on which the call was tried tells all that its twin tells on which it was not. */
    void changesNothing(Start start, String call) {
        for (Probe probe : Probe.values()) {
            JobSpread x = start.make();
            Calls.byText(x, call);
            same(probe + " behind " + call, probe.of(x), probe.of(start.make()));
        }
    }

    /** Each promise named has had its tests, and each of its answers below 0 has been due in one. */
    void end(int... promises) {
        closeLast();
        for (int one : promises) {
            check.holds("promise " + one + " has a test", tests[one] > 0);
            for (int answer : TOLD_WITH[one - 1]) {
                check.holds("promise " + one + " was due to answer " + answer, answered[one][-answer]);
            }
        }
        check.end();
    }
}
