/** Promises 57 to 63: the checks and the output. */
final class OutputTest {
    private OutputTest() {
    }

    /** Promises 57 and 58. */
    private static void coins() {
        KitePermits k = Check.office("field 20 20 20 7;zone 2 5;colour 9;kite 0 5 9 0 2 999;kite 1 5 9 0 0 5;");
        Check.same("no coins yet", k.officeCoins(), 0);
        k.permit(0, 5, 24);
        Check.same("24 hours", k.officeCoins(), 480);
        Check.same("coinError", k.coinError(), 0);
        k.permit(0, 4, 1);
        Check.same("one hour more", k.officeCoins(), 500);
        k.launch(1);
        k.launch(0);
        k.passHours(1);
        Check.same("a fine is not the office's", k.officeCoins(), 500);
        Check.same("coinError", k.coinError(), 0);
        k.repair(0);
        Check.same("two knots", k.officeCoins(), 504);
        k.fund(1, 30);
        Check.same("nor are these", k.officeCoins(), 504);
        k.addKite(5, 5, 5, 0, 0, 77);
        Check.same("coinError", k.coinError(), 0);
        k.saveSnapshot(0);
        k.permit(1, 50, 1);
        k.restoreSnapshot(0);
        Check.same("as before", k.officeCoins(), 504);
        k.undo();
        Check.same("as after", k.officeCoins(), 524);
        Check.same("coinError", k.coinError(), 0);
        Check.feed(k, "field 10 10 0 0;zone 0 0;colour 0;kite 1 1 1 0 0 8;");
        k.loadSetup();
        Check.same("a new setup", k.officeCoins(), 0);
        Check.same("coinError", k.coinError(), 0);
    }

    /** Promise 59. */
    private static void crossings() {
        KitePermits k = new KitePermits();
        Check.same("no permits", k.permittedCrossings(), 0);
        k.permit(0, 0, 3);
        k.permit(1, 0, 2);
        k.permit(2, 0, 3);
        Check.same("permits", k.permittedCrossings(), 0);
        Check.badState("a crossing is not permitted", () -> k.permit(3, 2, 1));
        // Kites 0 and 3 cross in even hours only, and get their permits for even and odd ones.
        KitePermits turns = new KitePermits();
        turns.fund(3, 20);
        turns.permit(3, 1, 1);
        turns.permit(0, 1, 2);
        Check.same("no crossing in hour 1", turns.permittedCrossings(), 0);
    }

    /** Promise 60. */
    private static void meanReach() {
        KitePermits k = new KitePermits();
        Check.same("none flies", k.meanReach(), 0.0);
        k.launch(0);
        Check.same("6", k.meanReach(), 6.0);
        k.launch(1);
        Check.same("6 and 4", k.meanReach(), 5.0);
        k.launch(2);
        Check.same("6, 4 and 9", k.meanReach(), 19.0 / 3.0);
        k.passHours(1);
        Check.same("10, 8 and 9", k.meanReach(), 9.0);
        k.land(2);
        Check.same("10 and 8", k.meanReach(), 9.0);
        k.land(0);
        Check.same("8", k.meanReach(), 8.0);
        k.land(1);
        Check.same("none flies", k.meanReach(), 0.0);
        Check.same("no kites", Check.office("field 10 10 0 0;zone 0 0;colour 0;").meanReach(), 0.0);
        KitePermits tangled = new KitePermits();
        tangled.launch(0);
        tangled.launch(3);
        tangled.launch(1);
        // In hour 1 the string of 1 crosses that of 3.
        Check.same("one verdict", tangled.passHours(2), 1);
        Check.same("the tangled ones do not count", tangled.meanReach(), 6.0);
    }

    /** Promise 61. */
    private static void tangledShare() {
        KitePermits k = new KitePermits();
        Check.same("none", k.tangledShare(), 0.0f);
        k.launch(0);
        k.launch(3);
        Check.same("flying kites", k.tangledShare(), 0.0f);
        k.passHours(2);
        Check.same("two of four", k.tangledShare(), 0.5f);
        k.repair(0);
        Check.same("one of four", k.tangledShare(), 0.25f);
        k.addKite(0, 0, 1, 0, 0, 0);
        k.addKite(0, 0, 1, 0, 0, 0);
        Check.same("one of six", k.tangledShare(), 1.0f / 6.0f);
        Check.same("no kites", Check.office("field 10 10 0 0;zone 0 0;colour 0;").tangledShare(), 0.0f);
    }

    /** Promises 62 and 63. */
    private static void text() {
        KitePermits k = new KitePermits();
        Check.same("nothing", k.writePermits(), 0);
        Check.same("byte 0", k.outputByte(0), KitePermits.NONE);
        k.permit(0, 0, 10);
        Check.same("not written yet", k.outputByte(0), KitePermits.NONE);
        Check.same("one", k.writePermits(), 6);
        int[] bytes = {'0', 58, '0', 43, '1', '0'};
        for (int i = 0; i < bytes.length; i++) {
            Check.same("byte " + i, k.outputByte(i), bytes[i]);
        }
        for (int index : new int[] {-1, 6, 7, Integer.MIN_VALUE, Integer.MAX_VALUE}) {
            Check.same("byte " + index, k.outputByte(index), KitePermits.NONE);
        }
        k.permit(1, 100, 9);
        k.permit(2, 999999, 1);
        Check.same("the text before stays", k.outputByte(6), KitePermits.NONE);
        Check.same("three", Check.output(k), "0:0+10 1:100+9 2:999999+1");
        Check.same("the space", k.outputByte(6), 32);
        k.cancelPermits(0);
        k.cancelPermits(2);
        Check.same("the last byte is still there", k.outputByte(24), '1');
        Check.same("the shorter text", Check.output(k), "1:100+9");
        Check.same("nothing behind it", k.outputByte(7), KitePermits.NONE);
        k.cancelPermits(1);
        Check.same("an empty text", k.writePermits(), 0);
        Check.same("byte 0", k.outputByte(0), KitePermits.NONE);
    }

    /** Promise 62: the longest text there can be, with permits of kites 10 to 15. */
    private static void longestText() {
        KitePermits k = Check.office("field 100 100 0 0;zone 2 5;" + "colour 9;".repeat(6) + "kite 0 0 9 0 0 0;".repeat(10));
        for (int kite = 10; kite < 16; kite++) {
            k.addKite(0, 5 * kite, 9, kite - 10, 0, 0);
        }
        StringBuilder due = new StringBuilder();
        for (int i = 0; i < 30; i++) {
            int kite = 10 + i % 6;
            int start = 100000 + 100 * i;
            k.permit(kite, start, 24);
            due.append(i > 0 ? " " : "").append(kite).append(':').append(start).append("+24");
        }
        Check.same("the text", Check.output(k), due.toString());
        Check.same("its length", k.writePermits(), 389);
        Check.same("its last byte", k.outputByte(388), '4');
        Check.same("behind it", k.outputByte(389), KitePermits.NONE);
    }

    public static void main(String[] args) {
        coins();
        crossings();
        meanReach();
        tangledShare();
        text();
        longestText();
        Check.finish("OutputTest");
    }
}
