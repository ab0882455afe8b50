/** Promises 2 to 5: the input buffer and the reported error. */
final class InputTest {
    private InputTest() {
    }

    private static int blanks(KitePermits k) {
        return k.append(0x20202020, 0x20202020, 0x20202020, 0x20202020, 0x20202020);
    }

    /** Promise 2: the bytes of each argument stand in the buffer from the most significant one on. */
    private static void appendedBytes() {
        KitePermits k = new KitePermits();
        // "hour" "s 12" ";hou" "rs 3" ";   "
        Check.same("append", k.append(0x686f7572, 0x73203132, 0x3b686f75, 0x72732033, 0x3b202020), 20);
        Check.same("both commands", k.runScript(), 2);
        Check.same("hours passed", k.hour(), 15);
        for (int argument = 0; argument < 5; argument++) {
            for (int place = 0; place < 4; place++) {
                int[] w = {0x20202020, 0x20202020, 0x20202020, 0x20202020, 0x20202020};
                w[argument] = w[argument] & ~(0xff << 24 - 8 * place) | 0xc3 << 24 - 8 * place;
                k.append(w[0], w[1], w[2], w[3], w[4]);
                Check.badArgument("a strange byte", () -> k.runScript());
                Check.same("its position", k.errorPosition(), 4 * argument + place);
            }
        }
        k.append(-1, -1, -1, -1, -1);
        Check.badArgument("bytes 255", () -> k.runScript());
        Check.same("the first one", k.errorPosition(), 0);
        k.append(0x20202080, 0, 0, 0, 0);
        Check.badArgument("byte 128", () -> k.runScript());
        Check.same("its position", k.errorPosition(), 3);
        k.append(0x20202020, 0, 0, 0, 0);
        Check.badArgument("byte 0", () -> k.runScript());
        Check.same("its position", k.errorPosition(), 4);
    }

    /** Promise 2: at most 500 bytes. */
    private static void appendLimit() {
        KitePermits k = new KitePermits();
        for (int i = 1; i <= 25; i++) {
            Check.same("append", blanks(k), 20 * i);
        }
        Check.badState("a 26th row", () -> blanks(k));
        Check.same("nothing was appended", k.truncate(500), 500);
        Check.badArgument("longer than 500", () -> k.truncate(501));
        Check.same("truncate(481)", k.truncate(481), 481);
        Check.badState("to 501", () -> blanks(k));
        Check.badArgument("it is still 481", () -> k.truncate(482));
        Check.same("truncate(480)", k.truncate(480), 480);
        Check.same("to 500", blanks(k), 500);
        Check.same("only spaces are a script", k.runScript(), 0);
        Check.same("the buffer is empty again", blanks(k), 20);
    }

    /** Promise 3. */
    private static void truncated() {
        KitePermits k = new KitePermits();
        Check.same("truncate an empty buffer", k.truncate(0), 0);
        Check.badArgument("beyond an empty buffer", () -> k.truncate(1));
        Check.badArgument("negative", () -> k.truncate(-1));
        Check.badArgument("far negative", () -> k.truncate(Integer.MIN_VALUE));
        blanks(k);
        Check.badArgument("beyond the length", () -> k.truncate(21));
        Check.badArgument("far beyond", () -> k.truncate(Integer.MAX_VALUE));
        Check.same("the whole", k.truncate(20), 20);
        Check.same("one byte less", k.truncate(19), 19);
        Check.badArgument("no way back", () -> k.truncate(20));
        Check.same("all", k.truncate(0), 0);
        // "hour" "s 12" ";hou" "rs 3" ";   ", cut behind the first semicolon
        k.append(0x686f7572, 0x73203132, 0x3b686f75, 0x72732033, 0x3b202020);
        Check.same("cut", k.truncate(9), 9);
        Check.same("one command is left", k.runScript(), 1);
        Check.same("12 hours", k.hour(), 12);
        k.append(0x686f7572, 0x73203132, 0x3b686f75, 0x72732033, 0x3b202020);
        k.truncate(7);
        k.append(0x3b202020, 0x20202020, 0x20202020, 0x20202020, 0x20202020);
        Check.same("hours 1;", k.runScript(), 1);
        Check.same("one hour more", k.hour(), 13);
    }

    private static void error(KitePermits k, int code, int position) {
        Check.same("errorCode", k.errorCode(), code);
        Check.same("errorPosition", k.errorPosition(), position);
    }

    /** Promises 4 and 5: the latest call counts, and nothing else touches the report. */
    private static void reports() {
        KitePermits k = new KitePermits();
        error(k, 0, KitePermits.NONE);
        Check.feed(k, "   hours 0;");
        error(k, 0, KitePermits.NONE);
        Check.badArgument("no hours", () -> k.runScript());
        error(k, KitePermits.RANGE, 9);
        blanks(k);
        k.truncate(3);
        k.passHours(1);
        k.saveSnapshot(0);
        k.restoreSnapshot(0);
        k.undo();
        k.undo();
        error(k, KitePermits.RANGE, 9);
        Check.badArgument("blanks are no setup", () -> k.loadSetup());
        error(k, KitePermits.SYNTAX, 3);
        Check.same("an empty script", k.runScript(), 0);
        error(k, 0, KitePermits.NONE);
        Check.badArgument("an empty setup", () -> k.loadSetup());
        error(k, KitePermits.SYNTAX, 0);
        Check.feed(k, "field 10 10 0 0;zone 0 0;colour 0;");
        error(k, KitePermits.SYNTAX, 0);
        Check.same("no kites", k.loadSetup(), 0);
        error(k, 0, KitePermits.NONE);
        Check.feed(k, "hours0");
        Check.badArgument("no hours", () -> k.runScript());
        error(k, KitePermits.RANGE, 5);
        Check.same("the script before is what undo takes back", k.undo(), 1);
        error(k, KitePermits.RANGE, 5);
        // A script that stops at a command is without an error.
        Check.feed(k, "land 0;");
        Check.same("nothing executed", k.runScript(), 0);
        error(k, 0, KitePermits.NONE);
    }

    public static void main(String[] args) {
        appendedBytes();
        appendLimit();
        truncated();
        reports();
        Check.finish("InputTest");
    }
}
