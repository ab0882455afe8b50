/** Promise 7: scripts. */
final class ScriptTest {
    private static final int S = KitePermits.SYNTAX;
    private static final int R = KitePermits.RANGE;
    private static final int L = KitePermits.LIMIT;

    private ScriptTest() {
    }

    private static KitePermits good(String text, int executed) {
        KitePermits k = new KitePermits();
        Check.feed(k, text);
        Check.same("runScript of " + text, Check.outcome(() -> k.runScript()), "" + executed);
        Check.same("errorCode of " + text, k.errorCode(), 0);
        Check.same("errorPosition of " + text, k.errorPosition(), KitePermits.NONE);
        Check.badArgument("the buffer is empty after " + text, () -> k.truncate(1));
        return k;
    }

    private static void bad(String text, int code, int position) {
        KitePermits k = new KitePermits();
        k.passHours(1);
        Check.feed(k, text);
        Check.badArgument("runScript of " + text, () -> k.runScript());
        Check.same("errorCode of " + text, k.errorCode(), code);
        Check.same("errorPosition of " + text, k.errorPosition(), position);
        Check.badArgument("the buffer is empty after " + text, () -> k.truncate(1));
        Check.same("nothing is executed of " + text, k.hour(), 1);
        Check.same("only the hour can be undone after " + text, k.undo(), 0);
    }

    private static void everyCommand() {
        KitePermits k = good("launch 0; land 0; hours 2; permit 0 3 4; cancel 0; tie 1 7; pay 3 999; launch 0; launch 3; hours 2; repair 0;", 11);
        Check.same("hour", k.hour(), 4);
        Check.same("knots(1)", k.knots(1), 7);
        Check.same("the permit was paid and cancelled", k.officeCoins(), 8);
        Check.same("permitCount", k.permitCount(), 0);
        Check.same("kite 0 is repaired", k.stateOf(0), 0);
        Check.same("kite 3 is tangled", k.stateOf(3), 2);
        Check.same("kite 3 paid the fine", k.purse(3), 989);
        Check.same("kite 0 got it", k.purse(0), 52);
        Check.same("undo of all", k.undo(), 0);
        Check.same("hour", k.hour(), 0);
        Check.same("purse(3)", k.purse(3), 0);
        Check.same("knots(1)", k.knots(1), 1);
    }

    private static void endings() {
        good("", 0);
        good("    ", 0);
        Check.same("an empty script is a change", new KitePermits().runScript(), 0);
        KitePermits k = new KitePermits();
        k.runScript();
        Check.same("and can be undone", k.undo(), 0);
        Check.same("launch of a kite that does not exist", good("hours 1;launch 4;hours 1;", 1).hour(), 1);
        Check.same("launch twice", good("launch 0;launch 0;hours 1;", 1).stateOf(0), 1);
        good("land 0;", 0);
        good("land 4;", 0);
        good("permit 0 0 24;permit 0 23 1;hours 9;", 1);
        good("permit 4 0 1;", 0);
        good("cancel 0;cancel 3;cancel 4;", 2);
        good("launch 1;tie 1 0;", 1);
        good("tie 0 0;tie 15 0;", 1);
        good("repair 0;", 0);
        good("repair 9;", 0);
        good("pay 3 1;pay 4 1;", 1);
        Check.same("what went before stays", good("pay 3 5;permit 3 0 3;", 1).purse(3), 5);
        k = good("permit 0 0 2;hours 1;permit 1 0 1;hours 1;", 2);
        Check.same("an hour in the past", k.hour(), 1);
        k = good("hours 48;hours48;hours   048  ;", 3);
        Check.same("144 hours", k.hour(), 144);
        Check.same("a failing script is a change", good("land 0;", 0).undo(), 0);
        k = good("hours 1;".repeat(20), 20);
        Check.same("20 commands", k.hour(), 20);
        Check.same("are one change", k.undo(), 0);
        k = new KitePermits();
        k.fund(0, 1);
        Check.script(k, "pay 0 999;launch 0;land 0;pay 0 1;pay 0 1;pay 0 1;pay 0 1;pay 0 1;pay 0 1;pay 0 1;");
        Check.same("a long script pushes out no change", k.undo(), 1);
        Check.same("purse", k.purse(0), 51);
    }

    private static void syntax() {
        bad("fly 0;", S, 0);
        bad("Launch 0;", S, 0);
        bad("launches 0;", S, 0);
        bad(";", S, 0);
        bad("5;", S, 0);
        bad("launch", S, 6);
        bad("launch  ", S, 8);
        bad("launch;", S, 6);
        bad("launch 0", S, 8);
        bad("launch 0 0;", S, 9);
        bad("launch land 0;", S, 7);
        bad("land;", S, 4);
        bad("hours;", S, 5);
        bad("hours 1 1;", S, 8);
        bad("permit 0 0;", S, 10);
        bad("permit 0;", S, 8);
        bad("permit 0 0 1 1;", S, 13);
        bad("cancel 0 0;", S, 9);
        bad("tie 0;", S, 5);
        bad("tie 0 1 2;", S, 8);
        bad("repair 0 0;", S, 9);
        bad("pay 0;", S, 5);
        bad("pay 0 1 1;", S, 8);
        bad("hours 1;;", S, 8);
        bad("hours 1;!", S, 8);
        bad("hours 1.5;", S, 7);
        bad("hours 1;zone 0 0;", S, 8);
    }

    private static void ranges() {
        bad("launch 16;", R, 7);
        bad("land 16", R, 5);
        bad("hours 0;", R, 6);
        bad("hours 49;", R, 6);
        bad("permit 16 0 1;", R, 7);
        bad("permit 0 1000000 1;", R, 9);
        bad("permit 0 999999 0;", R, 16);
        bad("permit 0 999999 25;", R, 16);
        bad("cancel 16;", R, 7);
        bad("tie 16 0;", R, 4);
        bad("tie 0 10;", R, 6);
        bad("repair 16;", R, 7);
        bad("pay 16 1;", R, 4);
        bad("pay 0 0;", R, 6);
        bad("pay 0 1000;", R, 6);
        bad("hours 1;hours 99999999999999999999999;", R, 14);
        good("permit 0 999999 24;", 1);
        good("launch 15;", 0);
        good("tie 0 9;", 1);
        good("pay 0 0000000000000000999;", 1);
    }

    private static void limits() {
        String twenty = "hours 1;".repeat(20);
        bad(twenty + "hours 1;", L, 160);
        bad(twenty + "  pay", L, 162);
        bad(twenty + "x", S, 160);
        bad(twenty + "7", S, 160);
        bad(twenty + ";", S, 160);
        bad(twenty + "\u0001", S, 160);
        for (String word : new String[] {"launch", "land", "hours", "permit", "cancel", "tie", "repair", "pay"}) {
            bad(twenty + word, L, 160);
        }
    }

    public static void main(String[] args) {
        everyCommand();
        endings();
        syntax();
        ranges();
        limits();
        Check.finish("ScriptTest");
    }
}
