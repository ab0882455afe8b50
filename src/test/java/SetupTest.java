/** Promises 1 and 6: a new object, and setups. */
final class SetupTest {
    private static final String FIELD = "field 10 10 0 0;";
    private static final String ZONE = "zone 0 0;";
    private static final String COLOUR = "colour 0;";
    private static final String KITE = "kite 0 0 1 0 0 0;";
    private static final int S = KitePermits.SYNTAX;
    private static final int R = KitePermits.RANGE;
    private static final int L = KitePermits.LIMIT;

    private SetupTest() {
    }

    private static String repeat(String text, int times) {
        return text.repeat(times);
    }

    /** Promise 1. */
    private static void newObject() {
        KitePermits k = new KitePermits();
        Check.same("hour", k.hour(), 0);
        Check.same("width", k.width(), 40);
        Check.same("height", k.height(), 30);
        Check.same("fee", k.fee(), 2);
        Check.same("fine", k.fine(), 10);
        Check.same("zoneCount", k.zoneCount(), 2);
        int[][] winds = {{2, 3, 0, 5}, {6, 4, 6, 4}};
        for (int zone = 0; zone < 2; zone++) {
            for (int hour = 0; hour < 2; hour++) {
                Check.same("windDirection", k.windDirection(zone, hour), winds[zone][2 * hour]);
                Check.same("windForce", k.windForce(zone, hour), winds[zone][2 * hour + 1]);
            }
        }
        Check.same("colourCount", k.colourCount(), 2);
        Check.same("quota(0)", k.quota(0), 2);
        Check.same("quota(1)", k.quota(1), 1);
        int[][] kites = {{5, 10, 10, 0, 0, 50}, {15, 8, 10, 0, 1, 40}, {34, 10, 15, 1, 1, 30}, {22, 10, 20, 0, 0, 0}};
        Check.same("kiteCount", k.kiteCount(), 4);
        for (int i = 0; i < 4; i++) {
            Check.same("anchorX", k.anchorX(i), kites[i][0]);
            Check.same("anchorY", k.anchorY(i), kites[i][1]);
            Check.same("stringLength", k.stringLength(i), kites[i][2]);
            Check.same("colourOf", k.colourOf(i), kites[i][3]);
            Check.same("knots", k.knots(i), kites[i][4]);
            Check.same("purse", k.purse(i), kites[i][5]);
            Check.same("stateOf", k.stateOf(i), 0);
            Check.same("tangles", k.tangles(i), 0);
        }
        Check.same("permitCount", k.permitCount(), 0);
        Check.same("officeCoins", k.officeCoins(), 0);
        Check.same("coinError", k.coinError(), 0);
        Check.badArgument("empty input", () -> k.truncate(1));
        Check.same("empty output", k.outputByte(0), KitePermits.NONE);
        Check.fails("slot 0 is empty", java.util.NoSuchElementException.class, () -> k.restoreSnapshot(0));
        Check.fails("slot 1 is empty", java.util.NoSuchElementException.class, () -> k.restoreSnapshot(1));
        Check.fails("no change", java.util.NoSuchElementException.class, () -> k.undo());
        KitePermits other = new KitePermits();
        k.passHours(5);
        Check.same("another object is untouched", other.hour(), 0);
    }

    private static void good(String text, int kites) {
        KitePermits k = new KitePermits();
        Check.feed(k, text);
        Check.same("loadSetup of " + text, Check.outcome(() -> k.loadSetup()), "" + kites);
        Check.same("errorCode of " + text, k.errorCode(), 0);
        Check.same("errorPosition of " + text, k.errorPosition(), KitePermits.NONE);
        Check.same("kiteCount of " + text, k.kiteCount(), kites);
        Check.same("undo of " + text, k.undo(), 0);
    }

    private static void bad(String text, int code, int position) {
        KitePermits k = new KitePermits();
        k.fund(0, 7);
        Check.feed(k, text);
        Check.badArgument("loadSetup of " + text, () -> k.loadSetup());
        Check.same("errorCode of " + text, k.errorCode(), code);
        Check.same("errorPosition of " + text, k.errorPosition(), position);
        Check.badArgument("the buffer is empty", () -> k.truncate(1));
        Check.same("the state stays", k.purse(0), 57);
        Check.same("the field stays", k.width(), 40);
        Check.same("the winds stay", k.windForce(1, 0), 4);
        Check.same("only the change before can be undone", k.undo(), 0);
    }

    /** Promise 6: every part of a setup arrives. */
    private static void loaded() {
        KitePermits k = new KitePermits();
        k.permit(0, 0, 2);
        k.launch(0);
        k.launch(1);
        k.passHours(1);
        Check.feed(k, "field 100 50 20 50; zone 7 9 1 0 2 1 3 2 4 3 5 4; zone 6 5; zone 0 0; zone 1 1;"
                + "colour 9; colour 0; colour 3; colour 4; colour 5; colour 6; kite 99 49 60 5 9 999; kite 0 0 1 0 0 0;");
        Check.same("loadSetup", k.loadSetup(), 2);
        Check.same("hour", k.hour(), 0);
        Check.same("width", k.width(), 100);
        Check.same("height", k.height(), 50);
        Check.same("fee", k.fee(), 20);
        Check.same("fine", k.fine(), 50);
        Check.same("zoneCount", k.zoneCount(), 4);
        int[] winds = {7, 9, 1, 0, 2, 1, 3, 2, 4, 3, 5, 4, 7, 9};
        for (int hour = 0; hour < 7; hour++) {
            Check.same("windDirection", k.windDirection(0, hour), winds[2 * hour]);
            Check.same("windForce", k.windForce(0, hour), winds[2 * hour + 1]);
        }
        Check.same("windDirection(1, 3)", k.windDirection(1, 3), 6);
        Check.same("windForce(3, 3)", k.windForce(3, 3), 1);
        int[] quotas = {9, 0, 3, 4, 5, 6};
        Check.same("colourCount", k.colourCount(), 6);
        for (int colour = 0; colour < 6; colour++) {
            Check.same("quota", k.quota(colour), quotas[colour]);
        }
        int[] got = {k.anchorX(0), k.anchorY(0), k.stringLength(0), k.colourOf(0), k.knots(0), k.purse(0), k.zoneOf(0)};
        int[] due = {99, 49, 60, 5, 9, 999, 3};
        for (int i = 0; i < due.length; i++) {
            Check.same("number " + i + " of kite 0", got[i], due[i]);
        }
        Check.same("purse(1)", k.purse(1), 0);
        Check.same("stateOf(0)", k.stateOf(0), 0);
        Check.same("tangles(0)", k.tangles(0), 0);
        Check.same("permitCount", k.permitCount(), 0);
        Check.same("officeCoins", k.officeCoins(), 0);
        Check.same("coinError", k.coinError(), 0);
        Check.badArgument("the buffer is empty", () -> k.truncate(1));
    }

    /** Promise 6: snapshots and earlier changes stay, and the setup itself can be undone. */
    private static void staysUndoable() {
        KitePermits k = new KitePermits();
        k.fund(3, 9);
        k.saveSnapshot(1);
        k.writePermits();
        k.permit(0, 0, 1);
        k.writePermits();
        Check.feed(k, FIELD + ZONE + COLOUR);
        Check.same("loadSetup", k.loadSetup(), 0);
        Check.same("the output stays", k.outputByte(0), '0');
        Check.same("undo the setup", k.undo(), 2);
        Check.same("the kites are back", k.kiteCount(), 4);
        Check.same("the permit is back", k.permitCount(), 1);
        Check.same("the winds are back", k.windForce(0, 1), 5);
        Check.feed(k, FIELD + ZONE + COLOUR);
        k.loadSetup();
        Check.same("restore", k.restoreSnapshot(1), 0);
        Check.same("the fund is in the snapshot", k.purse(3), 9);
        Check.same("the permit is not", k.permitCount(), 0);
        Check.same("undo the restoring", k.undo(), 3);
        Check.same("the small field", k.width(), 10);
    }

    /** Promise 6: nothing of the state before, nor of a setup with an error, is left. */
    private static void startsAnew() {
        KitePermits k = Check.office("field 40 20 1 3;zone 2 5 2 4 2 3;zone 0 1;zone 3 3;colour 9;colour 9;"
                + "kite 0 5 9 0 0 90;kite 1 5 9 0 1 90;kite 30 5 9 1 0 90;");
        k.permit(0, 4, 2);
        k.launch(0);
        k.launch(1);
        k.passHours(2);
        k.repair(1);
        Check.same("a forecast", k.verdictsIn(3), 0);
        Check.feed(k, "field 50 50 9 9;zone 1 1 2 2;zone 3 3;colour 8;colour 7;colour 6;kite 9 9 9 2 9 9;kite 50");
        Check.badArgument("an error at the end", () -> k.loadSetup());
        Check.same("the state stays", k.hour(), 2);
        Check.feed(k, "field 20 30 0 0;zone 7 9;colour 1;kite 9 9 5 0 0 5;kite 8 9 5 0 0 6;");
        Check.same("two kites", k.loadSetup(), 2);
        int[] got = {k.width(), k.height(), k.hour(), k.zoneCount(), k.windDirection(0, 1), k.windForce(0, 2), k.colourCount(),
            k.quota(0), k.permitCount(), k.officeCoins(), k.coinError(), k.stateOf(0), k.stateOf(1), k.tangles(0), k.tangles(1),
            k.knots(1), k.purse(0), k.zoneOf(0)};
        int[] due = {20, 30, 0, 1, 7, 9, 1, 1, 0, 0, 0, 0, 0, 0, 0, 0, 5, 0};
        for (int i = 0; i < due.length; i++) {
            Check.same("number " + i + " of the new state", got[i], due[i]);
        }
        Check.noKite("zone 1", () -> k.windForce(1, 0));
        Check.noKite("colour 1", () -> k.quota(1));
        Check.noKite("kite 2", () -> k.purse(2));
    }

    private static void spaces() {
        good(FIELD + ZONE + COLOUR, 0);
        good(FIELD + ZONE + COLOUR + KITE, 1);
        good("  field10 10 0 0 ; zone0 0;colour0;kite0 0 1 0 0 0 ;  ", 1);
        good("field 0010 00000000000000000000000000100 0 0;zone 0 0;colour 0;", 0);
        good(FIELD + repeat(ZONE, 4) + repeat(COLOUR, 6) + repeat(KITE, 16), 16);
        good(FIELD + "zone 0 0 1 1 2 2 3 3 4 4 5 5;" + COLOUR, 0);
        good("field 100 100 20 50;zone 7 9;colour 9;kite 99 99 60 0 9 999;", 1);
    }

    private static void syntax() {
        bad("", S, 0);
        bad("     ", S, 5);
        bad("fields 10 10 0 0;", S, 0);
        bad("Field 10 10 0 0;", S, 0);
        bad(" fielD", S, 1);
        bad("fieldzone", S, 0);
        bad("fiel", S, 0);
        bad("field", S, 5);
        bad("field ;", S, 6);
        bad("field 10", S, 8);
        bad("field 10 x", S, 9);
        bad("field 10 10 0;", S, 13);
        bad("field 10 10 0 0 0;", S, 16);
        bad("field 10 10 0 0", S, 15);
        bad("field 10 10 0 0  ", S, 17);
        bad("field 10,10 0 0;", S, 8);
        bad("field 10\t10 0 0;", S, 8);
        bad("field 10 -1 0 0;", S, 9);
        bad(FIELD, S, 16);
        bad(FIELD + ";", S, 16);
        bad(FIELD + COLOUR, S, 16);
        bad(FIELD + KITE, S, 16);
        bad(FIELD + FIELD, S, 16);
        bad(FIELD + "zone;", S, 20);
        bad(FIELD + "zone 0;", S, 22);
        bad(FIELD + "zone 0 0 0;", S, 26);
        bad(FIELD + "zone 0 0 zone 0 0;", S, 25);
        bad(FIELD + ZONE, S, 25);
        bad(FIELD + ZONE + KITE, S, 25);
        bad(FIELD + ZONE + "colour;", S, 31);
        bad(FIELD + ZONE + "colour 1 1;", S, 34);
        bad(FIELD + ZONE + "colours 1;", S, 25);
        bad(FIELD + ZONE + COLOUR + ZONE, S, 34);
        bad(FIELD + ZONE + COLOUR + ";", S, 34);
        bad(FIELD + ZONE + COLOUR + "5", S, 34);
        bad(FIELD + ZONE + COLOUR + KITE + COLOUR, S, 51);
        bad(FIELD + ZONE + COLOUR + KITE + ZONE, S, 51);
        bad(FIELD + ZONE + COLOUR + "kite 0 0 1 0 0;", S, 48);
        bad(FIELD + ZONE + COLOUR + "kite 0 0 1 0 0 0", S, 50);
        bad(FIELD + ZONE + COLOUR + "kite 0 0 1 0 0 0 0;", S, 51);
        bad(FIELD + ZONE + COLOUR + "kites 0 0 1 0 0 0;", S, 34);
        bad(FIELD + ZONE + COLOUR + KITE + "\u00ff", S, 51);
    }

    private static void ranges() {
        bad("field 9 x", R, 6);
        bad("field 101", R, 6);
        bad("field 10 9 0 0;", R, 9);
        bad("field 10 101 0 0;", R, 9);
        bad("field 10 10 21 0;", R, 12);
        bad("field 10 10 0 51;", R, 14);
        bad("field 4294967306 10 0 0;", R, 6);
        bad("field 18446744073709551626 10 0 0;", R, 6);
        bad("field " + repeat("9", 400), R, 6);
        bad(FIELD + "zone 8 0;", R, 21);
        bad(FIELD + "zone 0 10;", R, 23);
        bad(FIELD + "zone 0 0 8 0;", R, 25);
        bad(FIELD + ZONE + "colour 10;", R, 32);
        bad(FIELD + ZONE + COLOUR + "kite 10 0 1 0 0 0;", R, 39);
        bad(FIELD + ZONE + COLOUR + "kite 0 10 1 0 0 0;", R, 41);
        bad(FIELD + ZONE + COLOUR + "kite 0 0 0 0 0 0;", R, 43);
        bad(FIELD + ZONE + COLOUR + "kite 0 0 61 0 0 0;", R, 43);
        bad(FIELD + ZONE + COLOUR + "kite 0 0 1 1 0 0;", R, 45);
        bad(FIELD + ZONE + COLOUR + "kite 0 0 1 0 10 0;", R, 47);
        bad(FIELD + ZONE + COLOUR + "kite 0 0 1 0 0 1000;", R, 49);
        bad("field 20 10 0 0;" + ZONE + COLOUR + "kite 19 10 1 0 0 0;", R, 42);
        bad("field 20 10 0 0;" + ZONE + COLOUR + "kite 20 9 1 0 0 0;", R, 39);
        bad(FIELD + ZONE + repeat(COLOUR, 3) + "kite 0 0 1 3 0 0;", R, 63);
        good(FIELD + ZONE + repeat(COLOUR, 3) + "kite 0 0 1 2 0 0;", 1);
    }

    private static void limits() {
        bad(FIELD + repeat(ZONE, 5) + COLOUR, L, 52);
        bad(FIELD + repeat(ZONE, 4) + "zones", S, 52);
        bad(FIELD + repeat(ZONE, 4) + "zone", L, 52);
        bad(FIELD + ZONE + repeat(COLOUR, 7), L, 79);
        bad(FIELD + ZONE + repeat(COLOUR, 6) + ZONE, S, 79);
        bad(FIELD + ZONE + COLOUR + repeat(KITE, 17), L, 306);
        bad(FIELD + ZONE + COLOUR + repeat(KITE, 16) + COLOUR, S, 306);
        bad(FIELD + ZONE + COLOUR + repeat(KITE, 16) + "kites", S, 306);
        String six = "zone 0 0 1 1 2 2 3 3 4 4 5 5";
        bad(FIELD + six + " 6 6;", L, 45);
        bad(FIELD + six + " 6", L, 45);
        bad(FIELD + six + " 7;", L, 45);
        bad(FIELD + six + " 8;", R, 45);
        bad(FIELD + six + " x;", S, 45);
        bad(FIELD + six + "?", S, 44);
        bad(FIELD + six, S, 44);
        bad(FIELD + ZONE + six + " 0 0;", L, 54);
    }

    public static void main(String[] args) {
        newObject();
        loaded();
        staysUndoable();
        startsAnew();
        spaces();
        syntax();
        ranges();
        limits();
        Check.finish("SetupTest");
    }
}
