/** Promises 31 to 45: the kites and their strings. */
final class KitesTest {
    private static final int MIN = Integer.MIN_VALUE;
    private static final int MAX = Integer.MAX_VALUE;
    private static final int[][] STEPS = {{0, 1}, {1, 1}, {1, 0}, {1, -1}, {0, -1}, {-1, -1}, {-1, 0}, {-1, 1}};

    private KitesTest() {
    }

    /** Promises 31 to 40. */
    private static void plainNumbers() {
        KitePermits k = Check.office("field 30 20 0 0;zone 0 1;colour 1;colour 1;");
        Check.same("no kites", k.kiteCount(), 0);
        Check.noKite("anchorX(0)", () -> k.anchorX(0));
        k.addKite(29, 19, 60, 1, 9, 999);
        Check.same("one kite", k.kiteCount(), 1);
        k.addKite(3, 4, 5, 0, 7, 8);
        int[] got = {k.anchorX(1), k.anchorY(1), k.stringLength(1), k.colourOf(1), k.knots(1), k.purse(1), k.stateOf(1), k.zoneOf(1), k.tangles(1)};
        int[] due = {3, 4, 5, 0, 7, 8, 0, 0, 0};
        for (int i = 0; i < due.length; i++) {
            Check.same("number " + i + " of kite 1", got[i], due[i]);
        }
        for (int kite : new int[] {-1, 2, 16, MIN, MAX}) {
            Check.noKite("anchorX", () -> k.anchorX(kite));
            Check.noKite("anchorY", () -> k.anchorY(kite));
            Check.noKite("stringLength", () -> k.stringLength(kite));
            Check.noKite("colourOf", () -> k.colourOf(kite));
            Check.noKite("knots", () -> k.knots(kite));
            Check.noKite("purse", () -> k.purse(kite));
            Check.noKite("stateOf", () -> k.stateOf(kite));
            Check.noKite("zoneOf", () -> k.zoneOf(kite));
            Check.noKite("tangles", () -> k.tangles(kite));
            Check.noKite("reach", () -> k.reach(kite, -1));
            Check.noKite("endX", () -> k.endX(kite, -1));
            Check.noKite("endY", () -> k.endY(kite, -1));
            Check.noKite("canFly", () -> k.canFly(kite, -1));
            Check.noKite("doCross", () -> k.doCross(kite, 0, -1));
            Check.noKite("doCross", () -> k.doCross(0, kite, -1));
            Check.noKite("doCross of the same", () -> k.doCross(kite, kite, 0));
        }
        for (int hour : new int[] {-1, 1000000, MIN, MAX}) {
            Check.badArgument("reach", () -> k.reach(0, hour));
            Check.badArgument("endX", () -> k.endX(0, hour));
            Check.badArgument("endY", () -> k.endY(0, hour));
            Check.badArgument("canFly", () -> k.canFly(0, hour));
            Check.badArgument("doCross", () -> k.doCross(0, 1, hour));
        }
        Check.badArgument("doCross of the same", () -> k.doCross(1, 1, 0));
    }

    /** Promises 38 and 40. */
    private static void states() {
        KitePermits k = Check.office("field 20 20 0 0;zone 2 5;colour 9;kite 0 5 9 0 0 0;kite 1 5 9 0 0 0;kite 2 5 9 0 0 0;kite 0 9 3 0 0 0;");
        k.launch(0);
        k.launch(1);
        k.launch(2);
        k.launch(3);
        Check.same("flying", k.stateOf(2), 1);
        k.passHours(1);
        Check.same("tangled", k.stateOf(2), 2);
        Check.same("two verdicts", k.tangles(2), 2);
        Check.same("flying alone", k.stateOf(3), 1);
        Check.same("no verdict", k.tangles(3), 0);
        k.repair(0);
        k.repair(1);
        k.launch(0);
        k.launch(1);
        k.passHours(1);
        Check.same("three verdicts", k.tangles(0), 3);
        Check.same("two verdicts", k.tangles(2), 2);
    }

    /** Promise 39. */
    private static void zones() {
        for (int zoneCount = 1; zoneCount <= 4; zoneCount++) {
            for (int width : new int[] {10, 11, 13, 40, 99, 100}) {
                KitePermits k = Check.office("field " + width + " 10 0 0;" + "zone 0 0;".repeat(zoneCount) + "colour 0;");
                int[] xs = {0, 1, width / zoneCount - 1, width / zoneCount, width / zoneCount + 1, width / 2, width - 2, width - 1};
                for (int i = 0; i < xs.length; i++) {
                    int x = Math.min(xs[i], width - 1);
                    k.addKite(x, 0, 1, 0, 0, 0);
                    Check.same("zone of " + x + " of " + width, k.zoneOf(i), x * zoneCount / width);
                }
            }
        }
    }

    /** Promise 41. */
    private static void reaches() {
        for (int force = 0; force <= 9; force++) {
            KitePermits k = Check.office("field 20 20 0 0;zone 0 " + force + ";colour 0;");
            int kite = 0;
            for (int knots = 0; knots <= 9; knots += 3) {
                for (int length : new int[] {1, 4, 7, 60}) {
                    k.addKite(0, 0, length, 0, knots, 0);
                    int lift = force - knots;
                    int due = lift < 1 ? 0 : length * Math.min(lift, 5) / 5;
                    Check.same("reach with " + force + " " + knots + " " + length, k.reach(kite, 999999), due);
                    kite++;
                }
            }
        }
        KitePermits k = new KitePermits();
        Check.same("reach(0, 0)", k.reach(0, 0), 6);
        Check.same("reach(0, 1)", k.reach(0, 1), 10);
        Check.same("reach(1, 2)", k.reach(1, 2), 4);
        Check.same("reach(2, 7)", k.reach(2, 7), 9);
    }

    /** Promises 42 to 44. */
    private static void ends() {
        for (int direction = 0; direction < 8; direction++) {
            KitePermits k = Check.office("field 21 31 0 0;zone " + direction + " 5 " + direction + " 0;colour 0;");
            int[] lengths = {1, 10, 11, 15, 16, 60};
            for (int i = 0; i < lengths.length; i++) {
                k.addKite(10, 15, lengths[i], 0, 0, 0);
                int x = 10 + lengths[i] * STEPS[direction][0];
                int y = 15 + lengths[i] * STEPS[direction][1];
                Check.same("endX", k.endX(i, 0), x);
                Check.same("endY", k.endY(i, 0), y);
                Check.same("canFly", k.canFly(i, 0), x >= 0 && x < 21 && y >= 0 && y < 31);
                Check.same("without wind it ends at the anchor", k.endX(i, 1), 10);
                Check.same("without wind it ends at the anchor", k.endY(i, 1), 15);
                Check.same("without wind it cannot fly", k.canFly(i, 1), false);
            }
        }
        KitePermits k = Check.office("field 10 10 0 0;zone 0 1;colour 0;kite 0 0 4 0 0 0;kite 0 0 5 0 0 0;");
        Check.same("a lift of 1 and a reach of 0", k.canFly(0, 0), false);
        Check.same("a reach of 1", k.canFly(1, 0), true);
    }

    private static void crossing(String kites, String winds, boolean due) {
        KitePermits k = Check.office("field 40 40 0 0;" + winds + "colour 0;" + kites);
        Check.same("doCross of " + winds + kites, k.doCross(0, 1, 0), due);
        Check.same("doCross the other way of " + winds + kites, k.doCross(1, 0, 0), due);
    }

    /** Promise 45: zone 0 lies left of x = 20, zone 1 right of it. */
    private static void crossings() {
        String right = "zone 2 5;";
        crossing("kite 0 0 9 0 0 0;kite 0 1 9 0 0 0;", right, false);
        crossing("kite 0 0 9 0 0 0;kite 5 0 1 0 0 0;", right, true);
        crossing("kite 0 0 5 0 0 0;kite 5 0 1 0 0 0;", right, true);
        crossing("kite 0 0 5 0 0 0;kite 6 0 1 0 0 0;", right, false);
        crossing("kite 3 3 5 0 0 0;kite 3 3 9 0 0 0;", right, true);
        crossing("kite 3 3 5 0 9 0;kite 3 3 9 0 9 0;", right, true);
        crossing("kite 3 3 5 0 9 0;kite 3 4 9 0 9 0;", right, false);
        crossing("kite 3 3 5 0 9 0;kite 0 3 3 0 0 0;", right, true);
        crossing("kite 3 3 5 0 9 0;kite 0 3 2 0 0 0;", right, false);
        crossing("kite 3 3 5 0 9 0;kite 0 2 9 0 0 0;", right, false);
        String meeting = "zone 2 5;zone 6 5;";
        crossing("kite 10 5 10 0 0 0;kite 30 5 10 0 0 0;", meeting, true);
        crossing("kite 10 5 9 0 0 0;kite 30 5 10 0 0 0;", meeting, false);
        crossing("kite 10 5 20 0 0 0;kite 30 5 20 0 0 0;", meeting, true);
        crossing("kite 10 5 20 0 0 0;kite 30 6 20 0 0 0;", meeting, false);
        String corner = "zone 2 5;zone 0 5;";
        crossing("kite 10 9 10 0 0 0;kite 20 0 9 0 0 0;", corner, true);
        crossing("kite 10 9 10 0 0 0;kite 20 0 8 0 0 0;", corner, false);
        crossing("kite 10 9 9 0 0 0;kite 20 0 9 0 0 0;", corner, false);
        crossing("kite 10 9 15 0 0 0;kite 22 0 15 0 0 0;", corner, true);
        // Diagonals that meet at half coordinates: (19, 5) up right, (20, 5) up left.
        String diagonals = "zone 1 5;zone 7 5;";
        crossing("kite 19 5 1 0 0 0;kite 20 5 1 0 0 0;", diagonals, true);
        crossing("kite 10 5 9 0 0 0;kite 29 5 9 0 0 0;", diagonals, false);
        crossing("kite 10 5 10 0 0 0;kite 29 5 9 0 0 0;", diagonals, false);
        crossing("kite 10 5 10 0 0 0;kite 29 5 10 0 0 0;", diagonals, true);
        crossing("kite 10 5 20 0 0 0;kite 29 6 20 0 0 0;", diagonals, true);
        crossing("kite 10 5 20 0 0 0;kite 12 7 20 0 0 0;", "zone 1 5;", true);
        crossing("kite 10 5 20 0 0 0;kite 12 8 20 0 0 0;", "zone 1 5;", false);
        crossing("kite 10 5 1 0 0 0;kite 12 7 20 0 0 0;", "zone 1 5;", false);
        // The ends lie outside the field, and so does the common point.
        crossing("kite 15 35 20 0 0 0;kite 24 35 20 0 0 0;", diagonals, true);
        crossing("kite 19 0 60 0 0 0;kite 20 0 60 0 0 0;", "zone 6 5;zone 5 5;", false);
        crossing("kite 18 0 60 0 0 0;kite 20 0 60 0 0 0;", "zone 4 5;zone 5 5;", true);
        KitePermits k = new KitePermits();
        Check.same("0 and 3 in hour 0", k.doCross(0, 3, 0), true);
        Check.same("0 and 3 in hour 1", k.doCross(0, 3, 1), false);
        Check.same("0 and 3 in hour 999998", k.doCross(0, 3, 999998), true);
        Check.same("0 and 3 in hour 999999", k.doCross(0, 3, 999999), false);
    }

    public static void main(String[] args) {
        plainNumbers();
        states();
        zones();
        reaches();
        ends();
        crossings();
        Check.finish("KitesTest");
    }
}
