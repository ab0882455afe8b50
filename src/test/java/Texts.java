/** Setups and scripts that must be taken, and others that must be refused with their error. */
final class Texts {
    static final String FIELD = "field 10 10 0 0;";
    static final String ZONE = "zone 0 0;";
    static final String COLOUR = "colour 0;";
    static final String KITE = "kite 0 0 1 0 0 0;";

    private Texts() {
    }

    static KitePermits setup(String text) {
        KitePermits k = new KitePermits();
        Check.feed(k, text);
        String answer = Check.outcome(() -> k.loadSetup());
        Check.same("loadSetup of \"" + text + "\"", answer, "" + k.kiteCount());
        noError(k, text);
        return k;
    }

    static KitePermits script(String text, int executed) {
        return script(new KitePermits(), text, executed);
    }

    static KitePermits script(KitePermits k, String text, int executed) {
        Check.feed(k, text);
        Check.same("runScript of \"" + text + "\"", Check.outcome(() -> k.runScript()), "" + executed);
        noError(k, text);
        return k;
    }

    private static void noError(KitePermits k, String text) {
        Check.same("errorCode of \"" + text + "\"", k.errorCode(), 0);
        Check.same("errorPosition of \"" + text + "\"", k.errorPosition(), KitePermits.NONE);
        Check.badArgument("the buffer is empty after \"" + text + "\"", () -> k.truncate(1));
    }

    static void badSetup(String text, int code, int position) {
        bad(text, code, position, true);
    }

    static void badScript(String text, int code, int position) {
        bad(text, code, position, false);
    }

    private static void bad(String text, int code, int position, boolean isSetup) {
        KitePermits k = new KitePermits();
        k.fund(3, 77);
        String before = Picture.state(k);
        Check.feed(k, text);
        Check.badArgument("the text \"" + text + "\"", () -> read(k, isSetup));
        Check.same("errorCode of \"" + text + "\"", k.errorCode(), code);
        Check.same("errorPosition of \"" + text + "\"", k.errorPosition(), position);
        Check.badArgument("the buffer is empty after \"" + text + "\"", () -> k.truncate(1));
        Check.same("the state after \"" + text + "\"", Picture.state(k), before);
        Check.same("the changes before \"" + text + "\"", k.undo(), 0);
    }

    private static int read(KitePermits k, boolean isSetup) {
        return isSetup ? k.loadSetup() : k.runScript();
    }

    static void setupNumber(String before, int low, int high, String after) {
        number(before, low, high, after, true);
    }

    static void scriptNumber(String before, int low, int high, String after) {
        number(before, low, high, after, false);
    }

    /** A number of a text is taken from low to high, and refused outside. */
    private static void number(String before, int low, int high, String after, boolean isSetup) {
        String[] taken = {"" + low, "" + high, "00" + low, "000000000000000000000" + high};
        for (String number : taken) {
            KitePermits k = new KitePermits();
            String text = before + number + after;
            Check.feed(k, text);
            Check.same("\"" + text + "\" throws", Check.outcome(() -> read(k, isSetup)).startsWith("throws"), false);
            noError(k, text);
        }
        String[] outside = {"" + (high + 1), "00" + (high + 1), (high + 1) + "0000000000", "" + ((1L << 32) + low), "1" + "0".repeat(40)};
        for (String number : outside) {
            bad(before + number + after, KitePermits.RANGE, before.length(), isSetup);
        }
        if (low > 0) {
            bad(before + (low - 1) + after, KitePermits.RANGE, before.length(), isSetup);
            bad(before + 0 + after, KitePermits.RANGE, before.length(), isSetup);
        }
        // There are no negative numbers: the sign belongs to no token.
        bad(before + "-1" + after, KitePermits.SYNTAX, before.length(), isSetup);
    }
}
