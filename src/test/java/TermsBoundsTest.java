import java.util.ArrayList;
import java.util.Collections;
import java.util.HashSet;
import java.util.List;
import java.util.Set;

/** The section "Terms", from the field to the permits: each sentence that names a boundary case. */
final class TermsBoundsTest {
    private static final Class<?> INDEX = IndexOutOfBoundsException.class;
    private static final Class<?> ARGUMENT = IllegalArgumentException.class;
    private static final Class<?> STATE = IllegalStateException.class;
    private static final int S = KitePermits.SYNTAX;
    private static final int L = KitePermits.LIMIT;
    private static final int[][] STEPS = {{0, 1}, {1, 1}, {1, 0}, {1, -1}, {0, -1}, {-1, -1}, {-1, 0}, {-1, 1}};

    private TermsBoundsTest() {
    }

    // ---- field

    private static void sides() {
        Check.sentence("The field has a width and a height of 10 to 100.");
        Texts.setupNumber("field ", 10, 100, " 50 0 0;zone 0 0;colour 0;");
        Texts.setupNumber("field 50 ", 10, 100, " 0 0;zone 0 0;colour 0;");
        KitePermits flat = Texts.setup("field 100 10 0 0;zone 0 0;colour 0;");
        Check.same("width", flat.width(), 100);
        Check.same("height", flat.height(), 10);
        KitePermits steep = Texts.setup("field 10 100 0 0;zone 0 0;colour 0;");
        Check.same("width", steep.width(), 10);
        Check.same("height", steep.height(), 100);
    }

    private static void points() {
        Check.sentence("Its points have the coordinates x from 0 to width - 1 and y from 0 to height - 1.");
        String field = "field 17 23 0 0;zone 0 0;colour 0;";
        Check.bounds("addKite at x", 0, 16, ARGUMENT, () -> Check.office(field), (k, x) -> k.addKite(x, 20, 1, 0, 0, 0));
        Check.bounds("addKite at y", 0, 22, ARGUMENT, () -> Check.office(field), (k, y) -> k.addKite(9, y, 1, 0, 0, 0));
        Texts.setupNumber(field + "kite ", 0, 16, " 20 1 0 0 0;");
        Texts.setupNumber(field + "kite 9 ", 0, 22, " 1 0 0 0;");
        KitePermits corners = Texts.setup(field + "kite 0 0 1 0 0 0;kite 16 0 1 0 0 0;kite 0 22 1 0 0 0;kite 16 22 1 0 0 0;");
        Check.same("x of the last corner", corners.anchorX(3), 16);
        Check.same("y of the last corner", corners.anchorY(3), 22);
    }

    private static void zoneNumbers() {
        Check.sentence("It has 1 to 4 zones, numbered from 0.");
        Texts.badSetup(Texts.FIELD + Texts.COLOUR, S, 16);
        for (int count = 1; count <= 4; count++) {
            KitePermits k = Texts.setup(Texts.FIELD + Texts.ZONE.repeat(count) + Texts.COLOUR);
            Check.same("zoneCount", k.zoneCount(), count);
            Check.bounds("windDirection of zone", 0, count - 1, INDEX, () -> k, (x, zone) -> x.windDirection(zone, 0));
            Check.bounds("windForce of zone", 0, count - 1, INDEX, () -> k, (x, zone) -> x.windForce(zone, 0));
        }
        Texts.badSetup(Texts.FIELD + Texts.ZONE.repeat(5) + Texts.COLOUR, L, 16 + 4 * 9);
    }

    private static void zonesOfPoints() {
        Check.sentence("A point belongs to the zone x * (number of zones) / width.");
        String[] zones = {"10:0000000000", "10:0000011111", "10:0000111222", "10:0001122233", "11:00000000000", "11:00000011111",
            "11:00001111222", "11:00011122233", "13:0000111222333"};
        for (String one : zones) {
            String due = one.substring(3);
            int count = due.charAt(due.length() - 1) - '0' + 1;
            KitePermits empty = Check.office("field " + one.substring(0, 2) + " 10 0 0;" + "zone 0 0;".repeat(count) + "colour 0;");
            for (int x = 0; x < due.length(); x++) {
                int kite = empty.addKite(x, 9, 1, 0, 0, 0);
                Check.same("zone of x = " + x + " of " + one, empty.zoneOf(kite), due.charAt(x) - '0');
            }
        }
        // Of 100 columns, 33 are of zone 0 and 33 of zone 1 and 34 .. 66, and so the winds differ there.
        KitePermits wide = Texts.setup("field 100 10 0 0;zone 2 5;zone 2 6 0 7;zone 4 8;colour 0;kite 33 0 5 0 0 0;kite 34 0 5 0 0 0;"
                + "kite 66 0 5 0 0 0;kite 67 0 5 0 5 0;kite 99 9 5 0 4 0;");
        int[] due = {0, 1, 1, 2, 2};
        for (int kite = 0; kite < due.length; kite++) {
            Check.same("zone of kite " + kite, wide.zoneOf(kite), due[kite]);
        }
        Check.same("the wind left of the border", wide.endX(0, 1), 38);
        Check.same("the wind right of the border", wide.endY(1, 1), 5);
        Check.same("the wind left of the second border", wide.endY(2, 1), 5);
        Check.same("the wind right of the second border", wide.endY(3, 1), -3);
    }

    private static void integerDivisions() {
        Check.sentence("All divisions are integer divisions.");
        int[][] reaches = {{9, 4, 7}, {9, 3, 5}, {9, 2, 3}, {9, 1, 1}, {4, 1, 0}, {1, 4, 0}, {5, 1, 1}, {6, 4, 4}, {59, 4, 47}, {60, 4, 48}, {60, 1, 12}};
        for (int[] r : reaches) {
            KitePermits k = Check.office("field 100 100 0 0;zone 2 " + r[1] + ";colour 0;kite 0 0 " + r[0] + " 0 0 0;");
            Check.same("reach of a string of " + r[0] + " with a lift of " + r[1], k.reach(0, 0), r[2]);
        }
        Check.same("9 * 4 / 10", Check.office("field 10 10 0 0;" + "zone 0 0;".repeat(4) + "colour 0;kite 9 0 1 0 0 0;").zoneOf(0), 3);
    }

    // ---- winds

    private static void windCounts() {
        Check.sentence("Each zone has a list of 1 to 6 winds.");
        Texts.badSetup(Texts.FIELD + "zone;" + Texts.COLOUR, S, 20);
        Texts.badSetup(Texts.FIELD + "zone 3;" + Texts.COLOUR, S, 22);
        KitePermits one = Texts.setup(Texts.FIELD + "zone 3 4;" + Texts.COLOUR);
        Check.same("its only wind", one.windDirection(0, 0), 3);
        Check.same("its only wind", one.windForce(0, 1), 4);
        KitePermits six = Texts.setup(Texts.FIELD + "zone 0 1 1 2 2 3 3 4 4 5 5 6;zone 7 9 6 8 5 7 4 6 3 5 2 4;" + Texts.COLOUR);
        for (int hour = 0; hour < 6; hour++) {
            Check.same("direction of wind " + hour, six.windDirection(0, hour), hour);
            Check.same("force of wind " + hour, six.windForce(0, hour), hour + 1);
            Check.same("direction of wind " + hour, six.windDirection(1, hour), 7 - hour);
            Check.same("force of wind " + hour, six.windForce(1, hour), 9 - hour);
        }
        Texts.badSetup(Texts.FIELD + "zone 0 1 1 2 2 3 3 4 4 5 5 6 6 7;" + Texts.COLOUR, L, 16 + 28 + 1);
        Texts.badSetup(Texts.FIELD + Texts.ZONE + "zone 0 1 1 2 2 3 3 4 4 5 5 6 6 7;" + Texts.COLOUR, L, 16 + 9 + 28 + 1);
    }

    private static void windsComeAgain() {
        Check.sentence("The wind of a zone in an hour is the element (hour modulo length of the list).");
        for (int length = 1; length <= 6; length++) {
            StringBuilder zone = new StringBuilder("zone");
            for (int i = 0; i < length; i++) {
                zone.append(' ').append(i).append(' ').append(9 - i);
            }
            KitePermits k = Texts.setup(Texts.FIELD + zone + ";" + Texts.COLOUR);
            int[] hours = {0, length - 1, length, length + 1, 2 * length - 1, 2 * length, 7 * length, 999999, 999998, 999995};
            for (int hour : hours) {
                Check.same("direction of " + length + " in hour " + hour, k.windDirection(0, hour), hour % length);
                Check.same("force of " + length + " in hour " + hour, k.windForce(0, hour), 9 - hour % length);
            }
        }
        // Three winds: the kite flies in hours 0 and 1, is blown out in hour 2, and flies again in hour 3.
        KitePermits k = Texts.setup("field 20 20 0 0;zone 2 5 0 5 6 5;colour 0;kite 3 3 4 0 0 0;");
        Check.same("reach", k.launch(0), 4);
        k.passHours(1);
        Check.same("in the last hour but one of the list", k.stateOf(0), 1);
        k.passHours(1);
        Check.same("in the last hour of the list", k.stateOf(0), 0);
        Check.refused("launch", STATE, k, x -> x.launch(0));
        k.passHours(1);
        Check.same("the first wind again", k.launch(0), 4);
        k.passHours(1);
        Check.same("the second wind again", k.stateOf(0), 1);
        k.passHours(1);
        Check.same("the last wind again", k.stateOf(0), 0);
    }

    private static void windNumbers() {
        Check.sentence("A wind has a direction of 0 to 7 and a force of 0 to 9.");
        Texts.setupNumber(Texts.FIELD + "zone ", 0, 7, " 5;" + Texts.COLOUR);
        Texts.setupNumber(Texts.FIELD + "zone 5 ", 0, 9, ";" + Texts.COLOUR);
        Texts.setupNumber(Texts.FIELD + "zone 1 1 2 2 3 3 4 4 5 5 ", 0, 7, " 5;" + Texts.COLOUR);
        Texts.setupNumber(Texts.FIELD + "zone 1 1 2 2 3 3 4 4 5 5 6 ", 0, 9, ";" + Texts.COLOUR);
        KitePermits k = Texts.setup(Texts.FIELD + "zone 7 9 0 0;" + Texts.COLOUR);
        Check.same("the greatest direction", k.windDirection(0, 0), 7);
        Check.same("the greatest force", k.windForce(0, 0), 9);
        Check.same("the smallest direction", k.windDirection(0, 1), 0);
        Check.same("the smallest force", k.windForce(0, 1), 0);
    }

    private static void steps() {
        Check.sentence("The directions are steps (dx, dy) on the field: 0 is (0, 1), 1 is (1, 1), 2 is (1, 0), 3 is (1, -1),"
                + " 4 is (0, -1), 5 is (-1, -1), 6 is (-1, 0), 7 is (-1, 1).");
        for (int direction = 0; direction <= 7; direction++) {
            KitePermits k = Texts.setup("field 30 40 0 0;zone " + direction + " 5;colour 0;kite 11 17 3 0 0 0;");
            Check.same("endX", k.endX(0, 0), 11 + 3 * STEPS[direction][0]);
            Check.same("endY", k.endY(0, 0), 17 + 3 * STEPS[direction][1]);
        }
    }

    private static void firstHour() {
        Check.sentence("The present hour is 0 at the beginning.");
        KitePermits k = new KitePermits();
        Check.same("hour", k.hour(), 0);
        k.passHours(7);
        Check.feed(k, Texts.FIELD + Texts.ZONE + Texts.COLOUR);
        k.loadSetup();
        Check.same("hour after a setup", k.hour(), 0);
    }

    // ---- colours

    private static void colourNumbers() {
        Check.sentence("There are 1 to 6 colours, numbered from 0.");
        Texts.badSetup(Texts.FIELD + Texts.ZONE, S, 25);
        Texts.badSetup(Texts.FIELD + Texts.ZONE + Texts.KITE, S, 25);
        for (int count = 1; count <= 6; count++) {
            String text = Texts.FIELD + Texts.ZONE + Texts.COLOUR.repeat(count);
            int last = count - 1;
            KitePermits k = Texts.setup(text);
            Check.same("colourCount", k.colourCount(), count);
            Check.bounds("quota", 0, last, INDEX, () -> k, (x, colour) -> x.quota(colour));
            Check.bounds("addKite", 0, last, INDEX, () -> Check.office(text), (x, colour) -> x.addKite(0, 0, 1, colour, 0, 0));
            Check.same("a kite of the last colour", Texts.setup(text + "kite 0 0 1 " + last + " 0 0;").colourOf(0), last);
            Texts.badSetup(text + "kite 0 0 1 " + count + " 0 0;", KitePermits.RANGE, text.length() + 11);
        }
        Texts.badSetup(Texts.FIELD + Texts.ZONE + Texts.COLOUR.repeat(7), L, 25 + 6 * 9);
    }

    private static void quotas() {
        Check.sentence("Each colour has a quota of 0 to 9.");
        Texts.setupNumber(Texts.FIELD + Texts.ZONE + "colour ", 0, 9, ";");
        Texts.setupNumber(Texts.FIELD + Texts.ZONE + Texts.COLOUR.repeat(5) + "colour ", 0, 9, ";");
        StringBuilder rows = new StringBuilder("field 40 20 0 0;zone 2 5;colour 9;colour 0;kite 0 11 9 1 0 0;");
        for (int row = 0; row < 10; row++) {
            rows.append("kite 0 ").append(row).append(" 9 0 0 0;");
        }
        KitePermits k = Texts.setup(rows.toString());
        Check.same("a quota of 0 is used up at once", k.whyNotPermit(0, 0, 1), 4);
        Check.refused("permit of a quota of 0", STATE, k, x -> x.permit(0, 999999, 24));
        for (int kite = 1; kite <= 9; kite++) {
            Check.same("permit " + kite + " of 9", k.permit(kite, 5, 1), kite);
        }
        Check.same("the quota of 9 is used up", k.quotaUsed(0, 5), 9);
        Check.refused("permit 10 of 9", STATE, k, x -> x.permit(10, 5, 1));
        Check.same("its reason", k.whyNotPermit(10, 5, 1), 4);
        Check.same("the hour before", k.whyNotPermit(10, 4, 1), 0);
        Check.same("the hour after", k.whyNotPermit(10, 6, 1), 0);
    }

    // ---- kites

    private static void kiteNumbers() {
        Check.sentence("There are at most 16 kites, numbered from 0.");
        String none = Texts.FIELD + Texts.ZONE + Texts.COLOUR;
        KitePermits empty = Texts.setup(none);
        Check.same("no kites", empty.kiteCount(), 0);
        Check.refused("kite 0 of none", INDEX, empty, k -> k.purse(0));
        Check.same("the first kite", empty.addKite(0, 0, 1, 0, 0, 0), 0);
        Check.same("16 kites", Texts.setup(none + Texts.KITE.repeat(16)).kiteCount(), 16);
        Texts.badSetup(none + Texts.KITE.repeat(17), L, 34 + 16 * 17);
        KitePermits full = Texts.setup(none + Texts.KITE.repeat(15));
        Check.same("the 16th kite", full.addKite(9, 9, 1, 0, 0, 5), 15);
        Check.refused("a 17th kite", STATE, full, k -> k.addKite(9, 9, 1, 0, 0, 5));
        Check.bounds("purse", 0, 15, INDEX, () -> full, (k, kite) -> k.purse(kite));
        Check.same("the last kite", full.purse(15), 5);
    }

    private static void kiteParts() {
        Check.sentence("A kite has an anchor, which is a point of the field, a string length of 1 to 60, a colour, a tail with"
                + " 0 to 9 knots, a purse of coins, and a state: 0 grounded, 1 flying, 2 tangled.");
        Check.Maker maker = () -> Check.office("field 17 23 0 0;zone 0 0;colour 0;colour 0;kite 0 0 1 0 0 0;");
        Check.bounds("addKite with a length", 1, 60, ARGUMENT, maker, (k, length) -> k.addKite(0, 0, length, 0, 0, 0));
        Check.bounds("addKite with knots", 0, 9, ARGUMENT, maker, (k, knots) -> k.addKite(0, 0, 1, 0, knots, 0));
        Check.bounds("tieKnots", 0, 9, ARGUMENT, maker, (k, knots) -> k.tieKnots(0, knots));
        Check.bounds("addKite with coins", 0, 999, ARGUMENT, maker, (k, coins) -> k.addKite(0, 0, 1, 0, 0, coins));
        String before = "field 17 23 0 0;zone 0 0;colour 0;colour 0;kite 0 0 ";
        Texts.setupNumber(before, 1, 60, " 0 0 0;");
        Texts.setupNumber(before + "1 ", 0, 1, " 0 0;");
        Texts.setupNumber(before + "1 0 ", 0, 9, " 0;");
        Texts.setupNumber(before + "1 0 0 ", 0, 999, ";");
    }

    private static void newKites() {
        Check.sentence("A new kite is grounded.");
        KitePermits k = Check.office("field 20 20 0 0;zone 2 5;colour 0;kite 0 0 9 0 0 0;kite 1 0 9 0 0 0;");
        k.launch(0);
        k.launch(1);
        Check.same("one verdict", k.passHours(1), 1);
        k.addKite(0, 5, 9, 0, 0, 0);
        Check.same("a kite added beside tangled ones", k.stateOf(2), 0);
        Check.feed(k, "field 20 20 0 0;zone 2 5;colour 0;kite 0 0 9 0 0 0;kite 1 0 9 0 0 0;");
        k.loadSetup();
        Check.same("after a setup in place of tangled kites", k.stateOf(0), 0);
        Check.same("after a setup in place of tangled kites", k.stateOf(1), 0);
    }

    private static void liftsOfTheAnchor() {
        Check.sentence("The lift of a kite in an hour is the force of the wind in the zone of its anchor minus its knots.");
        // The first end lies in the other zone, and the knots count from 0 to 9.
        KitePermits k = Texts.setup("field 20 20 0 0;zone 2 5 2 4;zone 2 9;colour 0;kite 9 0 10 0 0 0;kite 10 0 5 0 4 0;kite 9 5 10 0 3 0;kite 10 5 5 0 9 0;");
        Check.same("the force of its own zone", k.reach(0, 0), 10);
        Check.same("the force of that hour", k.reach(0, 1), 8);
        Check.same("a lift of 5 by 4 knots", k.reach(1, 0), 5);
        Check.same("a lift of 1", k.reach(2, 1), 2);
        Check.same("a lift of 0", k.reach(3, 0), 0);
        k.tieKnots(1, 5);
        Check.same("a lift of 4", k.reach(1, 0), 4);
    }

    private static void stringEndPoints() {
        Check.sentence("Its end is the point that is reached from the anchor by as many steps in the direction of the wind as the reach says.");
        KitePermits k = Texts.setup("field 20 20 0 0;zone 1 5 5 4 3 0;colour 0;kite 0 0 1 0 0 0;kite 19 0 60 0 0 0;kite 7 9 9 0 0 0;");
        int[][] due = {{0, 0, 1, 1}, {0, 1, 0, 0}, {0, 2, 0, 0}, {1, 0, 79, 60}, {1, 1, -29, -48}, {1, 2, 19, 0}, {2, 0, 16, 18}, {2, 1, 0, 2}, {2, 2, 7, 9}};
        for (int[] d : due) {
            Check.same("endX of kite " + d[0] + " in hour " + d[1], k.endX(d[0], d[1]), d[2]);
            Check.same("endY of kite " + d[0] + " in hour " + d[1], k.endY(d[0], d[1]), d[3]);
        }
    }

    private static void lifts() {
        Check.sentence("Its reach is 0 if the lift is less than 1, and otherwise string length * (the smaller one of lift and 5) / 5.");
        int[][] due = {{0, 9, 0}, {0, 0, 0}, {9, 9, 0}, {5, 6, 0}, {9, 8, 10}, {1, 0, 10}, {4, 0, 40}, {9, 5, 40}, {5, 0, 50}, {9, 4, 50},
            {6, 0, 50}, {9, 3, 50}, {9, 0, 50}};
        for (int[] d : due) {
            KitePermits k = Texts.setup("field 100 100 0 0;zone 2 " + d[0] + ";colour 0;kite 0 0 50 0 " + d[1] + " 0;");
            Check.same("reach with force " + d[0] + " and " + d[1] + " knots", k.reach(0, 0), d[2]);
        }
    }

    private static void flights() {
        Check.sentence("A kite can fly in an hour if its reach is at least 1 and its end is a point of the field.");
        KitePermits calm = Texts.setup("field 20 20 0 0;zone 2 1 2 0;colour 0;kite 0 0 4 0 0 0;kite 0 0 5 0 0 0;kite 0 0 5 0 1 0;");
        Check.same("a reach of 0 by division", calm.canFly(0, 0), false);
        Check.same("a reach of 1", calm.canFly(1, 0), true);
        Check.same("a reach of 0 without wind", calm.canFly(1, 1), false);
        Check.same("a reach of 0 by knots", calm.canFly(2, 0), false);
        for (int direction = 0; direction <= 7; direction++) {
            KitePermits k = Texts.setup("field 20 30 0 0;zone " + direction + " 5;colour 0;");
            int dx = STEPS[direction][0];
            int dy = STEPS[direction][1];
            // Kites from which seven steps lead just to the border, and one step beyond it.
            int x = dx > 0 ? 12 : dx < 0 ? 7 : 19;
            int y = dy > 0 ? 22 : dy < 0 ? 7 : 29;
            k.addKite(x, y, 7, 0, 0, 0);
            k.addKite(x + dx, y, 7, 0, 0, 0);
            k.addKite(x, y + dy, 7, 0, 0, 0);
            k.addKite(x, y, 8, 0, 0, 0);
            Check.same("to the border in direction " + direction, k.canFly(0, 0), true);
            Check.same("beyond it by x in direction " + direction, k.canFly(1, 0), dx == 0);
            Check.same("beyond it by y in direction " + direction, k.canFly(2, 0), dy == 0);
            Check.same("with a longer string in direction " + direction, k.canFly(3, 0), false);
        }
    }

    private static void cross(String what, String setup, boolean due) {
        KitePermits k = Check.office("field 40 40 0 0;" + setup);
        Check.same("doCross(0, 1), " + what, k.doCross(0, 1, 0), due);
        Check.same("doCross(1, 0), " + what, k.doCross(1, 0, 0), due);
    }

    private static void stringEnds() {
        Check.sentence("Its string in an hour is the straight line from the anchor to the end, both included.");
        String right = "zone 2 5;colour 0;";
        String corner = "zone 2 5;zone 0 5;colour 0;";
        String meeting = "zone 2 5;zone 6 5;colour 0;";
        cross("an end upon an anchor", right + "kite 0 3 5 0 0 0;kite 5 3 5 0 0 0;", true);
        cross("an end one step before an anchor", right + "kite 0 3 4 0 0 0;kite 5 3 5 0 0 0;", false);
        cross("an end upon an end", meeting + "kite 10 3 10 0 0 0;kite 30 3 10 0 0 0;", true);
        cross("an end one step before an end", meeting + "kite 10 3 9 0 0 0;kite 30 3 10 0 0 0;", false);
        cross("one anchor for both", right + "kite 7 3 1 0 0 0;kite 7 3 9 0 0 0;", true);
        cross("an end upon a line", corner + "kite 15 5 10 0 0 0;kite 25 2 9 0 0 0;", true);
        cross("an end one step before a line", corner + "kite 15 5 9 0 0 0;kite 25 2 9 0 0 0;", false);
        cross("an anchor upon a line", corner + "kite 15 5 15 0 0 0;kite 25 5 9 0 0 0;", true);
        cross("an anchor one step behind a line", corner + "kite 15 5 15 0 0 0;kite 25 6 9 0 0 0;", false);
        cross("two lines beside one another", right + "kite 0 3 9 0 0 0;kite 0 4 9 0 0 0;", false);
        cross("one line within the other", right + "kite 0 3 30 0 0 0;kite 9 3 1 0 0 0;", true);
    }

    private static void halfPoints() {
        Check.sentence("Two strings cross if they have a common point, which need not have whole coordinates.");
        String roof = "zone 1 5;zone 7 5;colour 0;";
        cross("at (19.5, 5.5)", roof + "kite 19 5 1 0 0 0;kite 20 5 1 0 0 0;", true);
        cross("at (19.5, 13.5)", roof + "kite 15 9 5 0 0 0;kite 24 9 5 0 0 0;", true);
        cross("half a step before it", roof + "kite 15 9 4 0 0 0;kite 24 9 5 0 0 0;", false);
        cross("half a step before it on both sides", roof + "kite 15 9 4 0 0 0;kite 24 9 4 0 0 0;", false);
        cross("at a whole point", roof + "kite 15 10 5 0 0 0;kite 24 11 5 0 0 0;", true);
        cross("outside the field", roof + "kite 10 35 20 0 0 0;kite 29 35 20 0 0 0;", true);
        cross("half a step apart all the way", "zone 1 5;colour 0;kite 10 10 9 0 0 0;kite 11 10 9 0 0 0;", false);
    }

    /** All half points of a string, doubled: strings in eight directions have no other common points. */
    private static Set<Integer> halfPointsOf(KitePermits k, int kite) {
        Set<Integer> points = new HashSet<>();
        int reach = k.reach(kite, 0);
        int[] step = STEPS[k.windDirection(k.zoneOf(kite), 0)];
        for (int i = 0; i <= 2 * reach; i++) {
            points.add((2 * k.anchorX(kite) + i * step[0]) * 1000 + 2 * k.anchorY(kite) + i * step[1]);
        }
        return points;
    }

    /** Short strings side by side, in all directions and places: the first five of zone 0, the others of zone 1. */
    private static void everyCrossing() {
        Check.sentence("Two strings cross if they have a common point, which need not have whole coordinates.");
        for (int pair = 0; pair < 64; pair++) {
            String winds = "field 40 40 0 0;zone " + pair / 8 + " 5;zone " + pair % 8 + " 5;colour 0;";
            for (int x = 19; x <= 23; x++) {
                for (int y = 6; y <= 14; y++) {
                    StringBuilder text = new StringBuilder(winds);
                    for (int length = 0; length < 5; length++) {
                        text.append("kite 19 10 ").append(Math.max(1, length)).append(length == 0 ? " 0 9 0;" : " 0 0 0;");
                    }
                    for (int length = 0; length < 5; length++) {
                        text.append("kite ").append(x).append(' ').append(y).append(' ').append(Math.max(1, length)).append(length == 0 ? " 0 9 0;" : " 0 0 0;");
                    }
                    crossAll(Check.office(text.toString()));
                }
            }
        }
    }

    private static void crossAll(KitePermits k) {
        List<Set<Integer>> points = new ArrayList<>();
        for (int kite = 0; kite < 10; kite++) {
            points.add(halfPointsOf(k, kite));
        }
        for (int kite = 0; kite < 5; kite++) {
            for (int other = 5; other < 10; other++) {
                boolean due = !Collections.disjoint(points.get(kite), points.get(other));
                if (k.doCross(kite, other, 0) != due || k.doCross(other, kite, 0) != due) {
                    Check.report("doCross(" + kite + ", " + other + ") of\n" + Picture.state(k));
                }
            }
        }
    }

    // ---- permits

    private static KitePermits cheap() {
        return Check.office("field 20 20 0 0;zone 2 5;colour 9;kite 0 5 9 0 0 0;kite 0 7 9 0 0 0;");
    }

    private static void permitNumbers() {
        Check.sentence("A permit has a kite, a start hour of 0 to 999999, and a duration of 1 to 24 hours.");
        Check.bounds("permit of kite", 0, 1, INDEX, TermsBoundsTest::cheap, (k, kite) -> k.permit(kite, 5, 2));
        Check.bounds("permit from", 0, 999999, ARGUMENT, TermsBoundsTest::cheap, (k, start) -> k.permit(0, start, 2));
        Check.bounds("permit for", 1, 24, ARGUMENT, TermsBoundsTest::cheap, (k, duration) -> k.permit(0, 5, duration));
        Texts.scriptNumber("permit ", 0, 15, " 5 2;");
        Texts.scriptNumber("permit 0 ", 0, 999999, " 2;");
        Texts.scriptNumber("permit 0 5 ", 1, 24, ";");
        KitePermits k = cheap();
        k.permit(0, 999999, 24);
        Check.same("the last start hour", k.permitStart(0), 999999);
        Check.same("the longest duration", k.permitDuration(0), 24);
    }

    private static void coveredHours() {
        Check.sentence("It covers as many hours, one after another, beginning with the start hour.");
        for (int duration : new int[] {1, 2, 24}) {
            KitePermits k = cheap();
            k.permit(1, 7, duration);
            Check.same("the hour before", k.hasPermit(1, 6), false);
            for (int hour = 7; hour < 7 + duration; hour++) {
                Check.same("hour " + hour + " of " + duration, k.hasPermit(1, hour), true);
                Check.same("quota in hour " + hour + " of " + duration, k.quotaUsed(0, hour), 1);
            }
            Check.same("the hour after " + duration, k.hasPermit(1, 7 + duration), false);
            Check.same("quota after " + duration, k.quotaUsed(0, 7 + duration), 0);
        }
        KitePermits last = cheap();
        last.permit(1, 999999, 24);
        Check.same("the hour before the last one", last.hasPermit(1, 999998), false);
        Check.same("the last hour", last.hasPermit(1, 999999), true);
        KitePermits into = cheap();
        into.permit(1, 999976, 24);
        Check.same("the last hour of a permit", into.hasPermit(1, 999999), true);
        KitePermits before = cheap();
        before.permit(1, 999975, 24);
        Check.same("the hour after a permit", before.hasPermit(1, 999999), false);
    }

    private static void thirtyPermits() {
        Check.sentence("There are at most 30 permits at a time.");
        KitePermits k = cheap();
        for (int i = 0; i < 30; i++) {
            Check.same("permit " + i, k.permit(i % 2, i, 1), i + 1);
        }
        Check.refused("a 31st permit", STATE, k, x -> x.permit(0, 40, 1));
        Check.same("its reason", k.whyNotPermit(0, 40, 1), 2);
        k.passHours(1);
        Check.same("29 are left", k.permitCount(), 29);
        Check.same("a 30th again", k.permit(0, 40, 1), 30);
        Check.refused("a 31st again", STATE, k, x -> x.permit(1, 40, 1));
        Check.same("15 of kite 1 are cancelled", k.cancelPermits(1), 15);
        Check.same("a 16th", k.permit(1, 40, 1), 16);
    }

    private static void listOrder() {
        Check.sentence("They are listed in the order in which they were granted.");
        KitePermits k = cheap();
        Check.same("an empty list", Check.output(k), "");
        k.permit(1, 9, 1);
        k.permit(0, 4, 2);
        k.permit(1, 2, 1);
        k.permit(0, 1, 1);
        Check.same("later hours may come first", Check.output(k), "1:9+1 0:4+2 1:2+1 0:1+1");
        k.passHours(2);
        Check.same("one from the end is removed", Check.output(k), "1:9+1 0:4+2 1:2+1");
        k.passHours(1);
        k.permit(0, 3, 1);
        Check.same("a new one at the end", Check.output(k), "1:9+1 0:4+2 0:3+1");
        k.cancelPermits(1);
        k.permit(1, 3, 1);
        Check.same("the first one is removed", Check.output(k), "0:4+2 0:3+1 1:3+1");
    }

    public static void main(String[] args) {
        sides();
        points();
        zoneNumbers();
        zonesOfPoints();
        integerDivisions();
        windCounts();
        windsComeAgain();
        windNumbers();
        steps();
        firstHour();
        colourNumbers();
        quotas();
        kiteNumbers();
        kiteParts();
        newKites();
        liftsOfTheAnchor();
        lifts();
        stringEndPoints();
        flights();
        stringEnds();
        halfPoints();
        everyCrossing();
        permitNumbers();
        coveredHours();
        thirtyPermits();
        listOrder();
        Check.finish("TermsBoundsTest");
    }
}
