/** Promises 51 to 56: the questions, which change nothing. */
final class QuestionsTest {
    private static final int MIN = Integer.MIN_VALUE;
    private static final int MAX = Integer.MAX_VALUE;
    private static final int NONE = KitePermits.NONE;

    private QuestionsTest() {
    }

    private static void reason(KitePermits k, int kite, int start, int duration, int due) {
        String call = "(" + kite + ", " + start + ", " + duration + ")";
        Check.same("whyNotPermit" + call, k.whyNotPermit(kite, start, duration), due);
        int before = k.permitCount();
        if (due == 0) {
            Check.same("permit" + call, k.permit(kite, start, duration), before + 1);
            k.undo();
        } else {
            Check.badState("permit" + call, () -> k.permit(kite, start, duration));
        }
        Check.same("permits after" + call, k.permitCount(), before);
    }

    /** Promise 51: each reason alone, at its edges, and in the presence of all later ones. */
    private static void reasons() {
        // Kites 0 and 1 lie on one line, 2 is free, 3 is blown out in hours 3, 7, ..; colour 1 has the quota 0.
        KitePermits k = Check.office("field 40 20 3 0;zone 2 5 2 5 2 5 0 5;colour 2;colour 0;colour 1;"
                + "kite 0 5 9 0 0 100;kite 5 5 9 0 0 100;kite 0 9 9 0 0 6;kite 0 15 9 2 0 100;kite 0 18 1 1 0 100;kite 30 5 1 2 0 0;");
        reason(k, 0, 0, 1, 0);
        reason(k, 0, 999999, 24, 0);
        reason(k, 3, 0, 3, 0);
        reason(k, 3, 0, 4, 5);
        reason(k, 3, 3, 1, 5);
        reason(k, 4, 0, 1, 4);
        reason(k, 2, 0, 2, 0);
        reason(k, 2, 0, 3, 7);
        k.permit(0, 12, 2);
        reason(k, 0, 11, 1, 0);
        reason(k, 0, 11, 2, 3);
        reason(k, 0, 13, 1, 3);
        reason(k, 0, 14, 1, 0);
        reason(k, 0, 10, 5, 3);
        reason(k, 1, 11, 1, 0);
        reason(k, 1, 11, 2, 6);
        reason(k, 1, 13, 5, 6);
        reason(k, 1, 14, 1, 0);
        k.permit(2, 12, 2);
        reason(k, 1, 13, 1, 4);
        reason(k, 1, 14, 1, 0);
        k.permit(3, 8, 1);
        reason(k, 3, 8, 1, 3);
        reason(k, 5, 8, 1, 4);
        reason(k, 5, 7, 1, 7);
        k.passHours(9);
        reason(k, 1, 9, 1, 0);
        reason(k, 1, 8, 1, 1);
        reason(k, 0, 8, 5, 1);
        reason(k, 0, 0, 1, 1);
        KitePermits calm = Check.office("field 20 20 1 0;zone 2 5 2 0;colour 9;kite 0 5 9 0 0 0;kite 1 5 9 0 0 9;");
        reason(calm, 0, 0, 2, 5);
        calm.permit(1, 0, 1);
        reason(calm, 0, 0, 2, 5);
        reason(calm, 0, 0, 1, 6);
        reason(calm, 0, 2, 1, 7);
        reason(calm, 0, 1, 1, 5);
    }

    /** Promise 51: reason 2 comes after 1 and before 3. */
    private static void tooMany() {
        KitePermits k = Check.office("field 20 20 0 0;zone 2 5;colour 1;kite 0 5 9 0 0 0;kite 0 7 9 0 0 0;");
        k.passHours(2);
        for (int i = 0; i < 29; i++) {
            k.permit(0, 2 + i, 1);
        }
        reason(k, 1, 100, 1, 0);
        reason(k, 1, 2, 1, 4);
        k.permit(1, 50, 1);
        reason(k, 1, 100, 1, 2);
        reason(k, 0, 2, 1, 2);
        reason(k, 0, 1, 1, 1);
        Check.same("earliestStart", k.earliestStart(1, 1), NONE);
    }

    private static void permitArguments() {
        KitePermits k = new KitePermits();
        for (int kite : new int[] {-1, 4, MIN, MAX}) {
            Check.noKite("whyNotPermit", () -> k.whyNotPermit(kite, -1, 0));
            Check.noKite("kiteInTheWay", () -> k.kiteInTheWay(kite, -1, 0));
            Check.noKite("earliestStart", () -> k.earliestStart(kite, 0));
        }
        for (int start : new int[] {-1, 1000000, MIN, MAX}) {
            Check.badArgument("whyNotPermit", () -> k.whyNotPermit(0, start, 1));
            Check.badArgument("kiteInTheWay", () -> k.kiteInTheWay(0, start, 1));
        }
        for (int duration : new int[] {0, 25, -1, MIN, MAX}) {
            Check.badArgument("whyNotPermit", () -> k.whyNotPermit(0, 0, duration));
            Check.badArgument("kiteInTheWay", () -> k.kiteInTheWay(0, 0, duration));
            Check.badArgument("earliestStart", () -> k.earliestStart(0, duration));
        }
    }

    /** Promise 52. */
    private static void inTheWay() {
        // All but kite 4 lie on one line; kite 2 cannot fly.
        KitePermits k = Check.office("field 40 20 0 0;zone 2 5;colour 9;"
                + "kite 0 5 30 0 0 0;kite 1 5 3 0 0 0;kite 10 5 60 0 0 0;kite 8 5 9 0 0 0;kite 0 9 30 0 0 0;");
        Check.same("no permits", k.kiteInTheWay(0, 0, 24), NONE);
        k.permit(3, 5, 2);
        k.permit(1, 6, 2);
        k.permit(4, 0, 24);
        int[] due = {NONE, NONE, NONE, NONE, NONE, 3, 1, 1, NONE};
        for (int start = 0; start < due.length; start++) {
            Check.same("kiteInTheWay(0, " + start + ", 1)", k.kiteInTheWay(0, start, 1), due[start]);
        }
        Check.same("the smallest of several", k.kiteInTheWay(0, 0, 24), 1);
        Check.same("of a kite that cannot fly", k.kiteInTheWay(2, 0, 24), 3);
        Check.same("its own permit does not count", k.kiteInTheWay(3, 0, 24), NONE);
        Check.same("not those before", k.kiteInTheWay(0, 7, 5), 1);
        Check.same("not those before", k.kiteInTheWay(0, 8, 5), NONE);
        Check.same("not those after", k.kiteInTheWay(0, 0, 5), NONE);
        Check.same("up to the start", k.kiteInTheWay(0, 0, 6), 3);
        k.passHours(6);
        Check.same("in past hours too", k.kiteInTheWay(0, 5, 1), 3);
        k.cancelPermits(1);
        k.permit(1, 999999, 24);
        Check.same("beyond the last start hour", k.kiteInTheWay(0, 999999, 24), 1);
    }

    /** Promise 53. */
    private static void earliest() {
        KitePermits k = new KitePermits();
        Check.same("at once", k.earliestStart(0, 24), 0);
        Check.same("too dear", k.earliestStart(3, 1), NONE);
        k.permit(0, 0, 2);
        Check.same("after its own", k.earliestStart(0, 1), 2);
        k.passHours(1);
        Check.same("after its own", k.earliestStart(0, 23), 2);
        Check.same("too dear", k.earliestStart(0, 24), NONE);
        Check.same("the present hour", k.earliestStart(1, 1), 1);
        KitePermits far = Check.office("field 20 20 0 0;zone 2 5;colour 1;kite 0 5 9 0 0 0;kite 0 9 9 0 0 0;");
        far.passHours(3);
        far.permit(0, 3, 24);
        far.permit(0, 27, 24);
        far.permit(0, 51, 12);
        Check.same("60 hours on", far.earliestStart(1, 1), 63);
        Check.same("60 hours on", far.earliestStart(1, 24), 63);
        far.permit(0, 63, 1);
        Check.same("61 hours on is too far", far.earliestStart(1, 1), NONE);
        Check.same("nothing changed", far.permitCount(), 4);
        far.passHours(1);
        Check.same("an hour later it is not", far.earliestStart(1, 1), 64);
    }

    /** Promise 54. */
    private static void knots() {
        KitePermits k = Check.office("field 100 10 0 0;zone 2 9 2 5 2 0 6 9;colour 0;"
                + "kite 50 0 5 0 9 0;kite 50 0 60 0 0 0;kite 99 0 10 0 0 0;kite 50 0 1 0 0 0;kite 60 0 60 0 0 0;");
        // A lift of 5 and more reaches no farther, so the smallest number is 0.
        Check.same("all are equal down to a lift of 5", k.bestKnots(0, 0), 0);
        Check.same("a lift of 5", k.bestKnots(0, 1), 0);
        Check.same("no wind", k.bestKnots(0, 2), NONE);
        Check.same("48 of 60 steps with a lift of 4", k.bestKnots(1, 0), 5);
        Check.same("48 of 60 steps with a lift of 4", k.bestKnots(1, 1), 1);
        Check.same("no room at all", k.bestKnots(2, 0), NONE);
        Check.same("but room to the left", k.bestKnots(2, 3), 0);
        Check.same("only a lift of 5 gives a step", k.bestKnots(3, 1), 0);
        Check.same("36 of 60 steps with a lift of 3", k.bestKnots(4, 0), 6);
        Check.same("nothing changed", k.knots(0), 9);
        k.launch(3);
        Check.same("of a flying kite", k.bestKnots(3, 0), 0);
        for (int kite : new int[] {-1, 5, MIN, MAX}) {
            Check.noKite("bestKnots", () -> k.bestKnots(kite, -1));
        }
        for (int hour : new int[] {-1, 1000000, MIN, MAX}) {
            Check.badArgument("bestKnots", () -> k.bestKnots(0, hour));
        }
    }

    /** Promise 55. */
    private static void guilty() {
        KitePermits k = new KitePermits();
        for (int kite : new int[] {-1, 4, MIN, MAX}) {
            Check.noKite("guiltyKite", () -> k.guiltyKite(kite, 0));
            Check.noKite("guiltyKite", () -> k.guiltyKite(0, kite));
            Check.noKite("guiltyKite of the same", () -> k.guiltyKite(kite, kite));
        }
        Check.badArgument("the same", () -> k.guiltyKite(0, 0));
        Check.badState("both on the ground", () -> k.guiltyKite(0, 1));
        k.launch(2);
        Check.badState("the first on the ground", () -> k.guiltyKite(0, 2));
        Check.badState("the second on the ground", () -> k.guiltyKite(2, 0));
        k.launch(0);
        Check.same("launched later", k.guiltyKite(0, 2), 0);
        Check.same("launched later", k.guiltyKite(2, 0), 0);
        k.permit(0, 0, 1);
        Check.same("the one without a permit", k.guiltyKite(0, 2), 2);
        Check.same("the one without a permit", k.guiltyKite(2, 0), 2);
        k.permit(2, 0, 1);
        Check.same("both have one", k.guiltyKite(2, 0), 0);
        k.cancelPermits(0);
        Check.same("the one without a permit", k.guiltyKite(2, 0), 0);
        k.permit(0, 1, 1);
        Check.same("a permit for the next hour does not count", k.guiltyKite(0, 2), 0);
        Check.same("a permit for the next hour does not count", k.guiltyKite(2, 0), 0);
        k.passHours(1);
        Check.same("only the present hour counts", k.guiltyKite(0, 2), 2);
        k.passHours(1);
        Check.same("none has one", k.guiltyKite(2, 0), 0);
    }

    /** Promise 56. */
    private static void forecast() {
        KitePermits k = Check.office("field 40 20 0 9;zone 2 5 2 5 2 5 2 5 0 1;colour 9;"
                + "kite 0 5 5 0 0 20;kite 1 5 5 0 0 20;kite 2 5 5 0 0 20;kite 20 9 5 0 0 20;");
        for (int hours : new int[] {-1, 101, MIN, MAX}) {
            Check.badArgument("verdictsIn " + hours, () -> k.verdictsIn(hours));
        }
        k.launch(0);
        k.launch(1);
        k.launch(3);
        k.permit(3, 0, 1);
        Check.same("no hours", k.verdictsIn(0), 0);
        Check.same("one hour", k.verdictsIn(1), 1);
        Check.same("100 hours", k.verdictsIn(100), 1);
        k.launch(2);
        Check.same("three pairs", k.verdictsIn(2), 3);
        Check.same("the hour stays", k.hour(), 0);
        Check.same("the states stay", k.stateOf(0), 1);
        Check.same("the purses stay", k.purse(1), 20);
        Check.same("the permits stay", k.permitCount(), 1);
        Check.same("the tangles stay", k.tangles(0), 0);
        Check.same("and so it happens", k.passHours(2), 3);
        Check.same("six changes are left", k.undo(), 6);
    }

    /** Promise 56: up to the hundredth hour and not beyond. */
    private static void hundredth() {
        // Zone 0 has 5 winds and zone 1 has 6, so the strings reach one another in every 30th hour only.
        KitePermits k = Check.office("field 40 20 0 9;zone 2 5 2 1 2 1 2 1 2 1;zone 6 5 6 1 6 1 6 1 6 1 6 1;colour 9;"
                + "kite 14 5 10 0 0 0;kite 30 5 10 0 0 0;");
        k.passHours(20);
        k.launch(0);
        k.launch(1);
        Check.same("hours 21 to 29", k.verdictsIn(9), 0);
        Check.same("hours 21 to 30", k.verdictsIn(10), 1);
        Check.same("hours 21 to 120", k.verdictsIn(100), 1);
        k.passHours(10);
        k.repair(0);
        k.repair(1);
        k.launch(0);
        k.launch(1);
        Check.same("hours 31 to 59", k.verdictsIn(29), 0);
        Check.same("hours 31 to 60", k.verdictsIn(30), 1);
    }

    public static void main(String[] args) {
        reasons();
        tooMany();
        permitArguments();
        inTheWay();
        earliest();
        knots();
        guilty();
        forecast();
        hundredth();
        Check.finish("QuestionsTest");
    }
}
