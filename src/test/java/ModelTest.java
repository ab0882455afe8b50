/** Long runs of calls, made up by a counter, on KitePermits and on Model; all answers must agree. */
final class ModelTest {
    private static final int RUNS = 300;
    private static final int CALLS = 450;
    // Some runs are made so that many strings cross, some so that many permits are granted.
    private static final int MIXED = 0;
    private static final int CROWDED = 1;
    private static final int PERMITTING = 2;

    private long seed;
    private KitePermits x;
    private Model m;
    private final StringBuilder log = new StringBuilder();

    private final int kind;

    private ModelTest(long seed) {
        this.seed = seed * 7919 + 17;
        kind = (int) (seed % 3);
    }

    private int below(int n) {
        seed = seed * 6364136223846793005L + 1442695040888963407L;
        return (int) ((seed >>> 33) % n);
    }

    private boolean chance(int percent) {
        return below(100) < percent;
    }

    private int from(int low, int high) {
        return low + below(high - low + 1);
    }

    /** Mostly within the range, now and then just outside or far away. */
    private int around(int low, int high) {
        if (chance(96)) {
            return from(low, high);
        }
        int[] odd = {low - 1, high + 1, Integer.MIN_VALUE, Integer.MAX_VALUE, low, high};
        return odd[below(odd.length)];
    }

    private void both(String call, Check.Call real, Check.Call model) {
        log.append(call).append('\n');
        String due = Check.outcome(model);
        String got = Check.outcome(real);
        if (!got.equals(due)) {
            Check.report(log.substring(Math.max(0, log.length() - 1500)));
        }
        Check.same(call, got, due);
    }

    // ---- texts

    private String blank(boolean needed) {
        if (chance(10)) {
            return "  ".substring(below(2)) + " ";
        }
        return needed || chance(20) ? " " : "";
    }

    private String number(int low, int high) {
        int v = chance(98) ? from(low, high) : chance(50) ? high + 1 : Math.max(0, low - 1);
        return (chance(3) ? "00" : "") + v;
    }

    private String item(String word, String... numbers) {
        StringBuilder b = new StringBuilder(word);
        for (int i = 0; i < numbers.length; i++) {
            b.append(blank(i > 0)).append(numbers[i]);
        }
        return b.append(blank(false)).append(';').append(blank(false)).toString();
    }

    private int times(int low, int high) {
        return chance(2) ? high + 1 : from(low, high);
    }

    private String setup() {
        return kind == MIXED ? mixedSetup() : smallSetup();
    }

    private String smallSetup() {
        StringBuilder b = new StringBuilder("field " + from(10, 16) + " " + from(10, 16) + " ");
        b.append(kind == PERMITTING ? from(0, 1) : from(0, 3)).append(' ').append(from(0, 50)).append(';');
        for (int z = from(1, 2); z > 0; z--) {
            b.append("zone");
            for (int w = from(1, 4); w > 0; w--) {
                b.append(' ').append(from(0, 7)).append(' ').append(from(kind == PERMITTING ? 5 : 2, 9));
            }
            b.append(';');
        }
        b.append(kind == PERMITTING ? "colour 9;colour 9;" : "colour 3;colour 2;");
        for (int k = from(5, 14); k > 0; k--) {
            b.append(item("kite", "" + from(2, 8), "" + from(2, 8), "" + from(1, kind == PERMITTING ? 3 : 6),
                    "" + from(0, 1), "" + from(0, 1), "" + from(0, 200)));
        }
        return b.toString();
    }

    private String mixedSetup() {
        StringBuilder b = new StringBuilder(blank(false));
        int width = chance(70) ? from(10, 30) : from(10, 100);
        int height = chance(70) ? from(10, 30) : from(10, 100);
        b.append(item("field", "" + width, "" + height, number(0, chance(70) ? 3 : 20), number(0, 50)));
        int zones = times(1, 4);
        for (int z = 0; z < zones; z++) {
            int winds = chance(1) ? 7 : from(1, chance(70) ? 3 : 6);
            String[] n = new String[2 * winds];
            for (int i = 0; i < n.length; i += 2) {
                n[i] = number(0, 7);
                n[i + 1] = number(chance(80) ? 4 : 0, 9);
            }
            b.append(item("zone", n));
        }
        int colours = times(1, 6);
        for (int c = 0; c < colours; c++) {
            b.append(item("colour", number(chance(80) ? 3 : 0, 9)));
        }
        int kites = chance(5) ? from(14, 17) : from(0, 12);
        for (int k = 0; k < kites; k++) {
            b.append(item("kite", number(0, width - 1), number(0, height - 1), number(1, chance(80) ? 12 : 60),
                    number(0, Math.min(colours, 6) - 1), number(0, chance(80) ? 2 : 9), number(0, 999)));
        }
        return b.toString();
    }

    private String command() {
        switch (kind == MIXED ? below(8) : new int[] {0, 0, 2, 3, 3, 3, 5, 6, 7}[below(9)]) {
            case 0: return item("launch", number(0, chance(90) ? 6 : 15));
            case 1: return item("land", number(0, chance(90) ? 6 : 15));
            case 2: return item("hours", number(1, chance(90) ? 3 : 48));
            case 3: return item("permit", number(0, 15), number(m.s.hour, m.s.hour + (kind == PERMITTING ? 300 : 20)), number(1, chance(90) ? 4 : 24));
            case 4: return item("cancel", number(0, 15));
            case 5: return item("tie", number(0, 15), number(0, 9));
            case 6: return item("repair", number(0, 15));
            default: return item("pay", number(0, chance(90) ? 3 : 15), number(1, 999));
        }
    }

    private String script() {
        StringBuilder b = new StringBuilder(blank(false));
        int commands = chance(6) ? from(19, 21) : from(0, 8);
        for (int i = 0; i < commands; i++) {
            b.append(command());
        }
        return b.toString();
    }

    private String spoiled(String text) {
        StringBuilder b = new StringBuilder(text);
        int place = below(b.length() + 1);
        String[] bits = {";", "zone", "colour", "kite", "field", " 7 ", " 99 ", "x", "A", "\u00e9", "\t", " ", "launch", "99999999999999999999", "0"};
        switch (below(3)) {
            case 0: return b.substring(0, place);
            case 1: return b.insert(place, bits[below(bits.length)]).toString();
            default: return place < b.length() ? b.deleteCharAt(place).toString() : b.toString();
        }
    }

    private void feed(String text) {
        for (int at = 0; at < text.length() && at < 500; at += 20) {
            int[] w = Check.row(text, at);
            both("append '" + text.substring(at, Math.min(at + 20, text.length())) + "'",
                    () -> x.append(w[0], w[1], w[2], w[3], w[4]), () -> m.append(w));
        }
        int length = Math.min(text.length(), 500);
        both("truncate(" + length + ")", () -> x.truncate(length), () -> m.truncate(length));
    }

    private void text(boolean isSetup) {
        String text = isSetup ? setup() : script();
        feed(chance(35) ? spoiled(text) : text);
        if (isSetup) {
            both("loadSetup()", () -> x.loadSetup(), () -> m.loadSetup());
        } else {
            both("runScript()", () -> x.runScript(), () -> m.runScript());
        }
        both("errorCode()", () -> x.errorCode(), () -> m.code);
        both("errorPosition()", () -> x.errorPosition(), () -> m.position);
    }

    // ---- single calls

    private int kite() {
        return around(0, Math.max(0, m.s.kites.size() - 1));
    }

    private int hour() {
        int ahead = kind == PERMITTING && chance(80) ? 300 : 25;
        return chance(80) ? Math.max(0, m.s.hour + from(-3, ahead)) : around(0, 999999);
    }

    private void change() {
        int k = kite();
        int[] crowded = {0, 0, 0, 0, 4, 4, 6, 6, 12, 12, 14, 15};
        int[] permitting = {0, 4, 6, 6, 6, 6, 6, 6, 6, 10, 11, 14};
        switch (kind == MIXED ? below(16) : (kind == CROWDED ? crowded : permitting)[below(12)]) {
            case 0: case 1: case 2:
                both("launch(" + k + ")", () -> x.launch(k), () -> m.launch(k)); break;
            case 3:
                both("land(" + k + ")", () -> x.land(k), () -> m.land(k)); break;
            case 4: case 5: {
                int n = chance(80) ? from(1, 3) : around(1, 48);
                both("passHours(" + n + ")", () -> x.passHours(n), () -> m.passHours(n)); break;
            }
            case 6: case 7: case 8: case 9: {
                int h = hour(), d = chance(80) ? from(1, 4) : around(1, 24);
                both("permit(" + k + "," + h + "," + d + ")", () -> x.permit(k, h, d), () -> m.permit(k, h, d)); break;
            }
            case 10: if (chance(30)) both("cancelPermits(" + k + ")", () -> x.cancelPermits(k), () -> m.cancel(k)); break;
            case 11: {
                int n = around(0, 9);
                if (chance(40)) both("tieKnots(" + k + "," + n + ")", () -> x.tieKnots(k, n), () -> m.tie(k, n)); break;
            }
            case 12: case 13:
                both("repair(" + k + ")", () -> x.repair(k), () -> m.repair(k)); break;
            case 14: {
                int n = around(1, 999);
                both("fund(" + k + "," + n + ")", () -> x.fund(k, n), () -> m.fund(k, n)); break;
            }
            default: {
                int w = m.s.width, h = m.s.height;
                int a = around(0, w - 1), b = around(0, h - 1), l = chance(70) ? from(1, 12) : around(1, 60);
                int c = around(0, m.s.quotas.size() - 1), n = around(0, 9), p = around(0, 999);
                both("addKite(" + a + "," + b + "," + l + "," + c + "," + n + "," + p + ")",
                        () -> x.addKite(a, b, l, c, n, p), () -> m.addKite(a, b, l, c, n, p));
                break;
            }
        }
    }

    private void history() {
        int slot = around(0, 1);
        switch (below(4)) {
            case 0: case 1: both("undo()", () -> x.undo(), () -> m.undo()); break;
            case 2: both("saveSnapshot(" + slot + ")", () -> { x.saveSnapshot(slot); return 0; }, () -> m.save(slot)); break;
            default: both("restoreSnapshot(" + slot + ")", () -> x.restoreSnapshot(slot), () -> m.restore(slot)); break;
        }
    }

    private void question() {
        int k = kite(), o = kite(), h = hour(), d = chance(80) ? from(1, 4) : around(1, 24), n = around(0, 100);
        String at = "(" + k + "," + h + ")";
        switch (below(9)) {
            case 0: both("whyNotPermit(" + k + "," + h + "," + d + ")", () -> x.whyNotPermit(k, h, d), () -> m.whyNot(k, h, d)); break;
            case 1: both("kiteInTheWay(" + k + "," + h + "," + d + ")", () -> x.kiteInTheWay(k, h, d), () -> m.inTheWay(k, h, d)); break;
            case 2: both("earliestStart(" + k + "," + d + ")", () -> x.earliestStart(k, d), () -> m.earliest(k, d)); break;
            case 3: both("bestKnots" + at, () -> x.bestKnots(k, h), () -> m.bestKnots(k, h)); break;
            case 4: both("guiltyKite(" + k + "," + o + ")", () -> x.guiltyKite(k, o), () -> m.guiltyKite(k, o)); break;
            case 5: both("verdictsIn(" + n + ")", () -> x.verdictsIn(n), () -> m.verdictsIn(n)); break;
            case 6: both("doCross(" + k + "," + o + "," + h + ")", () -> x.doCross(k, o, h) ? 1 : 0, () -> m.doCross(k, o, h) ? 1 : 0); break;
            case 7:
                both("windDirection" + at, () -> x.windDirection(k % 5, h), () -> m.windAt(k % 5, h, 0));
                both("windForce" + at, () -> x.windForce(k % 5, h), () -> m.windAt(k % 5, h, 1));
                both("quota(" + k % 7 + ")", () -> x.quota(k % 7), () -> m.quota(k % 7));
                both("quotaUsed(" + k % 7 + "," + h + ")", () -> x.quotaUsed(k % 7, h), () -> m.quotaUsed(k % 7, h));
                break;
            default:
                both("reach" + at, () -> x.reach(k, h), () -> m.reachOf(k, h));
                both("endX" + at, () -> x.endX(k, h), () -> m.endOf(k, h, 0));
                both("endY" + at, () -> x.endY(k, h), () -> m.endOf(k, h, 1));
                both("canFly" + at, () -> x.canFly(k, h) ? 1 : 0, () -> m.canFly(k, h) ? 1 : 0);
                both("hasPermit" + at, () -> x.hasPermit(k, h) ? 1 : 0, () -> m.hasPermit(k, h) ? 1 : 0);
                break;
        }
    }

    /** Compares everything that can be seen of the state without another argument than an index. */
    private void look() {
        both("hour()", () -> x.hour(), () -> m.s.hour);
        both("width()", () -> x.width(), () -> m.s.width);
        both("height()", () -> x.height(), () -> m.s.height);
        both("fee()", () -> x.fee(), () -> m.s.fee);
        both("fine()", () -> x.fine(), () -> m.s.fine);
        both("zoneCount()", () -> x.zoneCount(), () -> m.s.zones.size());
        both("colourCount()", () -> x.colourCount(), () -> m.s.quotas.size());
        both("kiteCount()", () -> x.kiteCount(), () -> m.s.kites.size());
        both("permitCount()", () -> x.permitCount(), () -> m.s.permits.size());
        both("officeCoins()", () -> x.officeCoins(), () -> m.s.paid);
        both("coinError()", () -> x.coinError(), () -> m.coinError());
        both("permittedCrossings()", () -> x.permittedCrossings(), () -> m.permittedCrossings());
        both("meanReach()", () -> Double.doubleToLongBits(x.meanReach()), () -> Double.doubleToLongBits(m.meanReach()));
        both("tangledShare()", () -> Float.floatToIntBits(x.tangledShare()), () -> Float.floatToIntBits(m.tangledShare()));
        for (int i = -1; i <= m.s.kites.size(); i++) {
            int k = i;
            both("anchorX " + k, () -> x.anchorX(k), () -> m.at(k).x);
            both("anchorY " + k, () -> x.anchorY(k), () -> m.at(k).y);
            both("stringLength " + k, () -> x.stringLength(k), () -> m.at(k).length);
            both("colourOf " + k, () -> x.colourOf(k), () -> m.at(k).colour);
            both("knots " + k, () -> x.knots(k), () -> m.at(k).knots);
            both("purse " + k, () -> x.purse(k), () -> m.at(k).purse);
            both("stateOf " + k, () -> x.stateOf(k), () -> m.at(k).state);
            both("zoneOf " + k, () -> x.zoneOf(k), () -> m.zone(m.at(k)));
            both("tangles " + k, () -> x.tangles(k), () -> m.at(k).tangles);
        }
        for (int i = -1; i <= m.s.permits.size(); i++) {
            int p = i;
            both("permitKite " + p, () -> x.permitKite(p), () -> m.permitPart(p, 0));
            both("permitStart " + p, () -> x.permitStart(p), () -> m.permitPart(p, 1));
            both("permitDuration " + p, () -> x.permitDuration(p), () -> m.permitPart(p, 2));
        }
    }

    private void write() {
        both("writePermits()", () -> x.writePermits(), () -> m.writePermits());
        for (int i = -1; i <= m.out.length(); i++) {
            int at = i;
            both("outputByte(" + at + ")", () -> x.outputByte(at), () -> m.outputByte(at));
        }
    }

    private void run() {
        x = new KitePermits();
        m = new Model();
        boolean isShaped = chance(80);
        if (isShaped) {
            text(true);
        }
        for (int call = 0; call < CALLS && !Check.anyWrong(); call++) {
            int what = below(100);
            if (what < 2 && (kind == MIXED || chance(20))) {
                text(true);
            } else if (what < 6) {
                text(false);
            } else if (what < 60) {
                change();
            } else if (what < 66) {
                history();
            } else if (what < 98) {
                question();
            } else {
                write();
            }
            if (what < 66 && chance(25)) {
                look();
            }
        }
    }

    public static void main(String[] args) {
        for (int run = 1; run <= RUNS && !Check.anyWrong(); run++) {
            new ModelTest(run).run();
        }
        Check.finish("ModelTest");
    }
}
