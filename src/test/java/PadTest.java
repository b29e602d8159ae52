/** Promises 4, 5, 6, 7: say, wipe, fault, net. */
public final class PadTest {
    private static final Check CHECK = new Check("PadTest");
    private static final String TWELVE = Nets.TWELVE;

    public static void main(String[] args) {
        sayCountsSigns();
        wipeEmpties();
        faultsOfPads();
        netLaysAllAnew();
        netRefuses();
        CHECK.end();
    }

    private static void sayCountsSigns() {
        JobSpread x = new JobSpread();
        int[] outside = {32, 127, 0, -1, 97 + 256, Integer.MIN_VALUE, Integer.MAX_VALUE};
        for (int sign : outside) {
            CHECK.due("say(" + sign + ")", x.say(sign), JobSpread.OUTSIDE);
        }
        CHECK.due("count(1)", x.count(1), 0);
        CHECK.due("say(33)", x.say(33), 1);
        CHECK.due("say(126)", x.say(126), 2);
        for (int i = 3; i <= 40; i++) {
            CHECK.due("say(97)", x.say(97), i);
        }
        CHECK.due("say(97) on a full pad", x.say(97), JobSpread.FULL);
        CHECK.due("say(32) on a full pad", x.say(32), JobSpread.OUTSIDE);
        CHECK.due("count(1)", x.count(1), 40);
    }

    private static void wipeEmpties() {
        JobSpread x = Nets.of("ab2");
        Nets.say(x, "ab");
        CHECK.due("wipe()", x.wipe(), 2);
        CHECK.due("wipe() again", x.wipe(), 0);
        CHECK.due("count(1)", x.count(1), 0);
        CHECK.due("count(0)", x.count(0), 1);
        Nets.say(x, "cd1");
        CHECK.due("net()", x.net(), 1);
        CHECK.due("told(2, 13)", x.told(2, 13), 1);
    }

    private static void faultsOfPads() {
        int none = JobSpread.NONE;
        fault("", none);
        fault("a", 1);
        fault("ab", 2);
        fault("ab0", none);
        fault("ab3", none);
        fault("ab4", 2);
        fault("ab/", 2);
        fault("abc", 2);
        fault("aa0", 1);
        fault("hg3", none);
        fault("i", 0);
        fault("`", 0);
        fault("A", 0);
        fault("0", 0);
        fault("ai0", 1);
        fault("aB0", 1);
        fault("a1", 1);
        fault("ab0a", 4);
        fault("ab0ab", 4);
        fault("ab0ba1", 4);
        fault("ab0bc1cb", 7);
        fault("ab0bc1ca2", none);
        fault("ab0x", 3);
        fault("ab9ab", 2);
        fault("hh0", 1);
        fault(TWELVE, none);
        fault(TWELVE.substring(0, 35), 35);
        fault(TWELVE + "c", 36);
        fault(TWELVE + "cd0", 36);
        fault(TWELVE + "!", 36);
        fault(TWELVE + "abab", 36);
        fault("ab0ac1ad2ae3af0ag1ah2a", 22);
        fault("ab0ac1ad2ae3af0ag1ah2ah", 22);
    }

    private static void fault(String text, int due) {
        JobSpread x = new JobSpread();
        Nets.say(x, text);
        CHECK.due("fault() of " + text, x.fault(), due);
        CHECK.due("count(1) behind fault() of " + text, x.count(1), text.length());
    }

    private static void netLaysAllAnew() {
        JobSpread x = Nets.of("ab0bc1");
        x.node(0, 1, 3);
        x.run(0, 1);
        x.run(2, 1);
        int rotor = x.told(0, 2);
        CHECK.due("rotor", rotor, 1);
        CHECK.due("carry", x.carry(0, 1), 10003);
        Nets.say(x, "ba2ah3");
        CHECK.due("net()", x.net(), 2);
        CHECK.due("count(0)", x.count(0), 2);
        CHECK.due("count(1)", x.count(1), 0);
        CHECK.due("carry(0, 1) laid anew", x.carry(0, 1), 10000);
        CHECK.due("told(0, 11)", x.told(0, 11), 2);
        CHECK.due("told(0, 17)", x.told(0, 17), 3);
        CHECK.due("told(1, 12), which went", x.told(1, 12), JobSpread.NONE);
        CHECK.due("told(0, 2)", x.told(0, 2), rotor);
        CHECK.due("count(2)", x.count(2), 2);
        CHECK.due("told(2, 1)", x.told(2, 1), 0);
        CHECK.due("net() of an empty pad", x.net(), 0);
        CHECK.due("count(0)", x.count(0), 0);
        Nets.say(x, TWELVE);
        CHECK.due("net() of twelve", x.net(), 12);
        Nets.say(x, TWELVE);
        CHECK.due("net() of the same twelve", x.net(), 12);
        CHECK.due("told(0, 1)", x.told(0, 1), 7);
    }

    private static void netRefuses() {
        String[] faulty = {"a", "cd", "cd0c", "cd0dc1", "cd7", TWELVE + "c"};
        for (String text : faulty) {
            JobSpread x = Nets.of("ab0bc1");
            x.node(0, 1, 3);
            x.run(0, 1);
            Nets.say(x, text);
            String before = Nets.view(x);
            CHECK.due("net() of " + text, x.net(), JobSpread.FAULT);
            CHECK.same("view behind net() of " + text, Nets.view(x), before);
            CHECK.due("wipe()", x.wipe(), text.length());
        }
    }
}
