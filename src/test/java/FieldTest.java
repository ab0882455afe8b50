/** Promises 20 to 30: the hour, the field, its winds and its colours. */
final class FieldTest {
    private static final int MIN = Integer.MIN_VALUE;
    private static final int MAX = Integer.MAX_VALUE;

    private FieldTest() {
    }

    /** Promises 20 to 25 and 28, on other fields than that of a new object. */
    private static void plainNumbers() {
        KitePermits k = Check.office("field 11 97 19 49;zone 0 0;zone 1 1;zone 2 2;colour 1;colour 2;colour 3;");
        Check.same("hour", k.hour(), 0);
        Check.same("width", k.width(), 11);
        Check.same("height", k.height(), 97);
        Check.same("fee", k.fee(), 19);
        Check.same("fine", k.fine(), 49);
        Check.same("zoneCount", k.zoneCount(), 3);
        Check.same("colourCount", k.colourCount(), 3);
        k.passHours(48);
        k.passHours(2);
        Check.same("hour", k.hour(), 50);
        Check.same("width", k.width(), 11);
    }

    /** Promises 26 and 27. */
    private static void winds() {
        KitePermits k = Check.office("field 20 20 0 0;zone 0 1 2 3 4 5;zone 6 7;zone 7 8 1 9 3 0 5 2 2 4 4 6;colour 1;");
        int[][] winds = {{0, 1, 2, 3, 4, 5}, {6, 7}, {7, 8, 1, 9, 3, 0, 5, 2, 2, 4, 4, 6}};
        for (int zone = 0; zone < 3; zone++) {
            int length = winds[zone].length / 2;
            for (int hour : new int[] {0, 1, 2, 3, 4, 5, 6, 7, 13, 999998, 999999}) {
                Check.same("windDirection", k.windDirection(zone, hour), winds[zone][2 * (hour % length)]);
                Check.same("windForce", k.windForce(zone, hour), winds[zone][2 * (hour % length) + 1]);
            }
        }
        k.passHours(1);
        Check.same("the present hour does not matter", k.windForce(0, 0), 1);
        for (int zone : new int[] {-1, 3, MIN, MAX}) {
            Check.noKite("zone " + zone, () -> k.windDirection(zone, 0));
            Check.noKite("zone " + zone, () -> k.windForce(zone, 0));
            Check.noKite("zone before hour", () -> k.windDirection(zone, -1));
            Check.noKite("zone before hour", () -> k.windForce(zone, -1));
        }
        for (int hour : new int[] {-1, 1000000, MIN, MAX}) {
            Check.badArgument("hour " + hour, () -> k.windDirection(0, hour));
            Check.badArgument("hour " + hour, () -> k.windForce(0, hour));
        }
    }

    /** Promise 29. */
    private static void quotas() {
        KitePermits k = Check.office("field 20 20 0 0;zone 0 1;colour 0;colour 9;colour 4;");
        Check.same("quota(0)", k.quota(0), 0);
        Check.same("quota(1)", k.quota(1), 9);
        Check.same("quota(2)", k.quota(2), 4);
        for (int colour : new int[] {-1, 3, MIN, MAX}) {
            Check.noKite("quota(" + colour + ")", () -> k.quota(colour));
        }
    }

    /** Promise 30. */
    private static void used() {
        KitePermits k = new KitePermits();
        k.permit(0, 1, 3);
        k.permit(1, 3, 2);
        k.permit(2, 3, 1);
        int[] due = {0, 1, 1, 2, 1, 0};
        for (int hour = 0; hour < due.length; hour++) {
            Check.same("quotaUsed(0, " + hour + ")", k.quotaUsed(0, hour), due[hour]);
            Check.same("quotaUsed(1, " + hour + ")", k.quotaUsed(1, hour), hour == 3 ? 1 : 0);
        }
        Check.same("the last hour", k.quotaUsed(0, 999999), 0);
        k.passHours(3);
        Check.same("a past hour of a permit that goes on", k.quotaUsed(0, 1), 1);
        k.passHours(1);
        Check.same("a past hour of a permit that is removed", k.quotaUsed(0, 1), 0);
        for (int colour : new int[] {-1, 2, MIN, MAX}) {
            Check.noKite("colour " + colour, () -> k.quotaUsed(colour, 0));
            Check.noKite("colour before hour", () -> k.quotaUsed(colour, -1));
        }
        for (int hour : new int[] {-1, 1000000, MIN, MAX}) {
            Check.badArgument("hour " + hour, () -> k.quotaUsed(0, hour));
        }
    }

    public static void main(String[] args) {
        plainNumbers();
        winds();
        quotas();
        used();
        Check.finish("FieldTest");
    }
}
