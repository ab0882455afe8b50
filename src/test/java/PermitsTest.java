/** Promises 46 to 50: the list of permits. */
final class PermitsTest {
    private static final int MIN = Integer.MIN_VALUE;
    private static final int MAX = Integer.MAX_VALUE;

    private PermitsTest() {
    }

    /** Promises 46 to 49. */
    private static void list() {
        KitePermits k = new KitePermits();
        Check.same("none", k.permitCount(), 0);
        Check.noKite("permitKite(0)", () -> k.permitKite(0));
        k.permit(1, 9, 3);
        k.permit(0, 5, 1);
        k.permit(2, 999999, 2);
        Check.same("three", k.permitCount(), 3);
        int[][] due = {{1, 9, 3}, {0, 5, 1}, {2, 999999, 2}};
        for (int p = 0; p < 3; p++) {
            Check.same("permitKite", k.permitKite(p), due[p][0]);
            Check.same("permitStart", k.permitStart(p), due[p][1]);
            Check.same("permitDuration", k.permitDuration(p), due[p][2]);
        }
        for (int permit : new int[] {-1, 3, 30, MIN, MAX}) {
            Check.noKite("permitKite", () -> k.permitKite(permit));
            Check.noKite("permitStart", () -> k.permitStart(permit));
            Check.noKite("permitDuration", () -> k.permitDuration(permit));
        }
        k.cancelPermits(1);
        Check.same("two", k.permitCount(), 2);
        Check.same("the next one moves up", k.permitKite(0), 0);
        Check.noKite("the last place is gone", () -> k.permitStart(2));
        k.passHours(6);
        Check.same("the ended one is gone", k.permitKite(0), 2);
    }

    /** Promise 46: at most 30. */
    private static void thirty() {
        KitePermits k = Check.office("field 20 20 0 0;zone 2 5;colour 9;kite 0 5 9 0 0 0;kite 0 6 9 0 0 0;");
        for (int i = 0; i < 30; i++) {
            Check.same("permit", k.permit(0, 2 * i, 1), i + 1);
        }
        Check.badState("a 31st", () -> k.permit(1, 100, 1));
        Check.same("30", k.permitCount(), 30);
        Check.same("the last one", k.permitStart(29), 58);
        k.passHours(1);
        Check.same("29 are left", k.permitCount(), 29);
        Check.same("there is room again", k.permit(1, 100, 1), 30);
    }

    /** Promise 50. */
    private static void covered() {
        KitePermits k = new KitePermits();
        k.permit(0, 2, 3);
        k.permit(0, 6, 1);
        k.permit(1, 999999, 3);
        boolean[] due = {false, false, true, true, true, false, true, false};
        for (int hour = 0; hour < due.length; hour++) {
            Check.same("hasPermit(0, " + hour + ")", k.hasPermit(0, hour), due[hour]);
            Check.same("hasPermit(1, " + hour + ")", k.hasPermit(1, hour), false);
        }
        Check.same("the last hour", k.hasPermit(1, 999999), true);
        Check.same("the hour before", k.hasPermit(1, 999998), false);
        k.passHours(4);
        Check.same("a past hour of a permit that goes on", k.hasPermit(0, 2), true);
        k.passHours(1);
        Check.same("a past hour of a permit that is removed", k.hasPermit(0, 2), false);
        for (int kite : new int[] {-1, 4, MIN, MAX}) {
            Check.noKite("kite " + kite, () -> k.hasPermit(kite, 0));
            Check.noKite("kite before hour", () -> k.hasPermit(kite, -1));
        }
        for (int hour : new int[] {-1, 1000000, MIN, MAX}) {
            Check.badArgument("hour " + hour, () -> k.hasPermit(0, hour));
        }
    }

    public static void main(String[] args) {
        list();
        thirty();
        covered();
        Check.finish("PermitsTest");
    }
}
