/** What the tests have in common: comparing, feeding texts, and the end of a test. */
final class Check {
    private static int wrong = 0;
    private static int compared = 0;
    private static String sentence = "";

    private Check() {
    }

    interface Call {
        long answer();
    }

    interface Act {
        void run();
    }

    interface Maker {
        KitePermits make();
    }

    interface Use {
        long of(KitePermits k);
    }

    interface UseOf {
        long of(KitePermits k, int value);
    }

    /** Names the sentence of the document that the comparisons from here on test. */
    static void sentence(String text) {
        sentence = text;
    }

    static void sentence(int promise, String text) {
        sentence = "Promise " + promise + ": " + text;
    }

    static void same(String what, long got, long due) {
        compared++;
        if (got != due) {
            report(what + " answered " + got + ", due is " + due);
        }
    }

    static void same(String what, boolean got, boolean due) {
        compared++;
        if (got != due) {
            report(what + " answered " + got + ", due is " + due);
        }
    }

    static void same(String what, double got, double due) {
        compared++;
        if (Double.doubleToLongBits(got) != Double.doubleToLongBits(due)) {
            report(what + " answered " + got + ", due is " + due);
        }
    }

    static void same(String what, String got, String due) {
        compared++;
        if (!got.equals(due)) {
            report(what + " answered \"" + got + "\", due is \"" + due + "\"");
        }
    }

    static void fails(String what, Class<?> due, Act act) {
        same(what, outcome(() -> {
            act.run();
            return 0;
        }), "throws " + due.getSimpleName());
    }

    static void noKite(String what, Act act) {
        fails(what, IndexOutOfBoundsException.class, act);
    }

    static void badArgument(String what, Act act) {
        fails(what, IllegalArgumentException.class, act);
    }

    static void badState(String what, Act act) {
        fails(what, IllegalStateException.class, act);
    }

    /** A call that throws what is due and changes nothing that can be asked for. */
    static void refused(String what, Class<?> due, KitePermits k, Use use) {
        String before = Picture.of(k);
        fails(what, due, () -> use.of(k));
        same(what + " changes nothing", Picture.of(k), before);
    }

    /** The values low and high are taken, each by a new office, and those outside are refused. */
    static void bounds(String what, int low, int high, Class<?> due, Maker maker, UseOf use) {
        for (int value : new int[] {low, high}) {
            KitePermits k = maker.make();
            String answer = outcome(() -> use.of(k, value));
            same(what + " with " + value + " throws", answer.startsWith("throws"), false);
        }
        for (int value : new int[] {low - 1, high + 1, Integer.MIN_VALUE, Integer.MAX_VALUE}) {
            refused(what + " with " + value, due, maker.make(), k -> use.of(k, value));
        }
    }

    static String outcome(Call call) {
        try {
            return Long.toString(call.answer());
        } catch (RuntimeException e) {
            return "throws " + e.getClass().getSimpleName();
        }
    }

    static void report(String text) {
        wrong++;
        if (wrong <= 50) {
            System.out.println(sentence.isEmpty() ? text : "\"" + sentence + "\" " + text);
        }
    }

    static boolean anyWrong() {
        return wrong > 0;
    }

    /** The five arguments of append for twenty bytes of a text from a place on, spaces after its end. */
    static int[] row(String text, int from) {
        int[] words = new int[5];
        for (int i = 0; i < 20; i++) {
            char c = from + i < text.length() ? text.charAt(from + i) : ' ';
            words[i / 4] = words[i / 4] << 8 | c;
        }
        return words;
    }

    static void feed(KitePermits k, String text) {
        for (int from = 0; from < text.length(); from += 20) {
            int[] w = row(text, from);
            k.append(w[0], w[1], w[2], w[3], w[4]);
        }
        k.truncate(text.length());
    }

    static KitePermits office(String setup) {
        KitePermits k = new KitePermits();
        feed(k, setup);
        k.loadSetup();
        return k;
    }

    static int script(KitePermits k, String text) {
        feed(k, text);
        return k.runScript();
    }

    static String output(KitePermits k) {
        StringBuilder text = new StringBuilder();
        int length = k.writePermits();
        for (int i = 0; i < length; i++) {
            text.append((char) k.outputByte(i));
        }
        return text.toString();
    }

    static void finish(String name) {
        System.out.println(name + ": " + compared + " compared, " + wrong + " wrong");
        if (wrong > 0) {
            System.exit(1);
        }
    }
}
