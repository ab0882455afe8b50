/** Promises 20 to 63: each sentence that names a boundary case. */
final class QuestionCallsBoundsTest {
    private static final Class<?> INDEX = IndexOutOfBoundsException.class;
    private static final Class<?> ARGUMENT = IllegalArgumentException.class;
    private static final Class<?> STATE = IllegalStateException.class;
    private static final int NONE = KitePermits.NONE;
    private static final int MIN = Integer.MIN_VALUE;
    private static final int MAX = Integer.MAX_VALUE;
    private static final String FREE = "field 40 20 0 0;zone 2 5;colour 9;";
    private static final String BARE = Texts.FIELD + Texts.ZONE + Texts.COLOUR;

    private QuestionCallsBoundsTest() {
    }

    private static long bit(boolean is) {
        return is ? 1 : 0;
    }

    // ---- promises 20 to 30

    private static void hoursSinceSetup() {
        Check.sentence(20, "Returns the number of hours that have passed since the setup.");
        KitePermits k = new KitePermits();
        Check.same("a new object", k.hour(), 0);
        k.passHours(1);
        k.passHours(48);
        Check.script(k, "hours 48;hours 1;");
        Check.same("98 hours", k.hour(), 98);
        Check.feed(k, BARE);
        k.loadSetup();
        Check.same("a new setup", k.hour(), 0);
        k.passHours(2);
        k.undo();
        Check.same("hours undone", k.hour(), 0);
        k.undo();
        Check.same("the setup undone", k.hour(), 98);
    }

    private static void fieldNumbers() {
        Check.sentence(21, "Returns 10 to 100.");
        Check.same("the smallest width", Texts.setup("field 10 55 5 5;zone 0 0;colour 0;").width(), 10);
        Check.same("the greatest width", Texts.setup("field 100 55 5 5;zone 0 0;colour 0;").width(), 100);
        Check.sentence(22, "Returns 10 to 100.");
        Check.same("the smallest height", Texts.setup("field 55 10 5 5;zone 0 0;colour 0;").height(), 10);
        Check.same("the greatest height", Texts.setup("field 55 100 5 5;zone 0 0;colour 0;").height(), 100);
        Check.sentence(23, "Returns 0 to 20 coins.");
        Check.same("the smallest fee", Texts.setup("field 55 55 0 5;zone 0 0;colour 0;").fee(), 0);
        Check.same("the greatest fee", Texts.setup("field 55 55 20 5;zone 0 0;colour 0;").fee(), 20);
        Check.sentence(24, "Returns 0 to 50 coins.");
        Check.same("the smallest fine", Texts.setup("field 55 55 5 0;zone 0 0;colour 0;").fine(), 0);
        Check.same("the greatest fine", Texts.setup("field 55 55 5 50;zone 0 0;colour 0;").fine(), 50);
        Check.sentence(25, "Returns 1 to 4.");
        Check.same("one zone", Texts.setup(BARE).zoneCount(), 1);
        Check.same("four zones", Texts.setup(Texts.FIELD + Texts.ZONE.repeat(4) + Texts.COLOUR).zoneCount(), 4);
        Check.sentence(28, "Returns 1 to 6.");
        Check.same("one colour", Texts.setup(BARE).colourCount(), 1);
        Check.same("six colours", Texts.setup(Texts.FIELD + Texts.ZONE + Texts.COLOUR.repeat(6)).colourCount(), 6);
    }

    private static KitePermits fourZones() {
        return Check.office("field 40 20 0 0;zone 7 9;zone 0 0 1 1 2 2 3 3 4 4 5 5;zone 6 8 5 7;zone 0 9 7 0 3 3;colour 9;colour 0;");
    }

    private static void windDirections() {
        Check.sentence(26, "Returns 0 to 7.");
        KitePermits k = fourZones();
        Check.same("the greatest direction", k.windDirection(0, 999999), 7);
        Check.same("the smallest direction", k.windDirection(1, 0), 0);
        Check.same("the last element", k.windDirection(1, 5), 5);
        Check.same("the first element again", k.windDirection(1, 6), 0);
        Check.same("hour 999999 of six winds", k.windDirection(1, 999999), 3);
        Check.same("the last zone", k.windDirection(3, 1), 7);
        Check.sentence(26, "Throws `IndexOutOfBoundsException` if the zone does not exist");
        Check.bounds("zone", 0, 3, INDEX, QuestionCallsBoundsTest::fourZones, (x, zone) -> x.windDirection(zone, 0));
        Check.bounds("zone of one", 0, 0, INDEX, () -> Check.office(BARE), (x, zone) -> x.windDirection(zone, 0));
        Check.sentence(26, "Throws `IllegalArgumentException` if hour is out of range");
        Check.bounds("hour", 0, 999999, ARGUMENT, QuestionCallsBoundsTest::fourZones, (x, hour) -> x.windDirection(3, hour));
    }

    private static void windForces() {
        Check.sentence(27, "Returns 0 to 9.");
        KitePermits k = fourZones();
        Check.same("the greatest force", k.windForce(0, 0), 9);
        Check.same("the smallest force", k.windForce(3, 1), 0);
        Check.same("the last element", k.windForce(1, 5), 5);
        Check.same("the first element again", k.windForce(1, 6), 0);
        Check.same("hour 999999 of two winds", k.windForce(2, 999999), 7);
        Check.sentence(27, "Throws `IndexOutOfBoundsException` if the zone does not exist");
        Check.bounds("zone", 0, 3, INDEX, QuestionCallsBoundsTest::fourZones, (x, zone) -> x.windForce(zone, 0));
        Check.bounds("zone of one", 0, 0, INDEX, () -> Check.office(BARE), (x, zone) -> x.windForce(zone, 0));
        Check.sentence(27, "Throws `IllegalArgumentException` if hour is out of range");
        Check.bounds("hour", 0, 999999, ARGUMENT, QuestionCallsBoundsTest::fourZones, (x, hour) -> x.windForce(3, hour));
    }

    private static void quotas() {
        Check.sentence(29, "Returns 0 to 9.");
        KitePermits k = fourZones();
        Check.same("the greatest quota", k.quota(0), 9);
        Check.same("the smallest quota", k.quota(1), 0);
        Check.sentence(29, "Throws `IndexOutOfBoundsException` if the colour does not exist");
        Check.bounds("colour", 0, 1, INDEX, QuestionCallsBoundsTest::fourZones, (x, colour) -> x.quota(colour));
        Check.bounds("colour of six", 0, 5, INDEX, () -> Check.office(Texts.FIELD + Texts.ZONE + Texts.COLOUR.repeat(6)), (x, colour) -> x.quota(colour));
    }

    private static void quotasUsed() {
        Check.sentence(30, "Returns the number of permits of kites with this colour that cover the hour.");
        StringBuilder rows = new StringBuilder("field 40 20 0 0;zone 2 5;colour 9;colour 9;");
        for (int row = 0; row < 10; row++) {
            rows.append("kite 0 ").append(row).append(" 9 ").append(row / 9).append(" 0 0;");
        }
        KitePermits k = Texts.setup(rows.toString());
        Check.same("no permits", k.quotaUsed(0, 5), 0);
        for (int kite = 0; kite < 9; kite++) {
            k.permit(kite, 5, 1 + kite);
            Check.same("used by " + (kite + 1), k.quotaUsed(0, 5), kite + 1);
        }
        Check.same("the hour before", k.quotaUsed(0, 4), 0);
        for (int hour = 5; hour < 14; hour++) {
            Check.same("used in hour " + hour, k.quotaUsed(0, hour), 14 - hour);
            Check.same("the other colour in hour " + hour, k.quotaUsed(1, hour), 0);
        }
        Check.same("the hour after the last one", k.quotaUsed(0, 14), 0);
        k.permit(9, 999999, 1);
        Check.same("the last hour", k.quotaUsed(1, 999999), 1);
        Check.same("the hour before it", k.quotaUsed(1, 999998), 0);
        Check.sentence(30, "Throws `IndexOutOfBoundsException` if the colour does not exist");
        Check.bounds("colour", 0, 1, INDEX, () -> k, (x, colour) -> x.quotaUsed(colour, 5));
        Check.sentence(30, "Throws `IllegalArgumentException` if hour is out of range");
        Check.bounds("hour", 0, 999999, ARGUMENT, () -> k, (x, hour) -> x.quotaUsed(1, hour));
    }

    // ---- promises 31 to 45

    private static void kiteCounts() {
        Check.sentence(31, "Returns 0 to 16.");
        for (int count : new int[] {0, 1, 16}) {
            Check.same("kiteCount", Texts.setup(BARE + Texts.KITE.repeat(count)).kiteCount(), count);
        }
        KitePermits k = Texts.setup(BARE);
        for (int count = 1; count <= 16; count++) {
            k.addKite(0, 0, 1, 0, 0, 0);
            Check.same("kiteCount", k.kiteCount(), count);
        }
        Check.refused("a 17th kite", STATE, k, x -> x.addKite(0, 0, 1, 0, 0, 0));
        k.undo();
        Check.same("one less", k.kiteCount(), 15);
    }

    private static void noSuchKite() {
        Check.sentence("Throws `IndexOutOfBoundsException` if the kite does not exist");
        String[] names = {"launch", "land", "permit", "cancelPermits", "tieKnots", "repair", "fund", "anchorX", "anchorY", "stringLength",
            "colourOf", "knots", "purse", "stateOf", "zoneOf", "tangles", "reach", "endX", "endY", "canFly", "doCross", "doCross", "hasPermit",
            "whyNotPermit", "kiteInTheWay", "earliestStart", "bestKnots", "guiltyKite", "guiltyKite"};
        Check.UseOf[] calls = {(k, i) -> k.launch(i), (k, i) -> k.land(i), (k, i) -> k.permit(i, 0, 1), (k, i) -> k.cancelPermits(i),
            (k, i) -> k.tieKnots(i, 0), (k, i) -> k.repair(i), (k, i) -> k.fund(i, 1), (k, i) -> k.anchorX(i), (k, i) -> k.anchorY(i),
            (k, i) -> k.stringLength(i), (k, i) -> k.colourOf(i), (k, i) -> k.knots(i), (k, i) -> k.purse(i), (k, i) -> k.stateOf(i),
            (k, i) -> k.zoneOf(i), (k, i) -> k.tangles(i), (k, i) -> k.reach(i, 0), (k, i) -> k.endX(i, 0), (k, i) -> k.endY(i, 0),
            (k, i) -> bit(k.canFly(i, 0)), (k, i) -> bit(k.doCross(i, 1, 0)), (k, i) -> bit(k.doCross(1, i, 0)),
            (k, i) -> bit(k.hasPermit(i, 0)), (k, i) -> k.whyNotPermit(i, 0, 1), (k, i) -> k.kiteInTheWay(i, 0, 1),
            (k, i) -> k.earliestStart(i, 1), (k, i) -> k.bestKnots(i, 0), (k, i) -> k.guiltyKite(i, 1), (k, i) -> k.guiltyKite(1, i)};
        for (int call = 0; call < calls.length; call++) {
            Check.UseOf use = calls[call];
            for (int count : new int[] {0, 2, 16}) {
                for (int index : new int[] {-1, count, count + 1, MIN, MAX}) {
                    KitePermits k = Check.office(BARE + Texts.KITE.repeat(count));
                    boolean isSameTwice = index == 1;
                    if (!isSameTwice) {
                        Check.refused(names[call] + " of kite " + index + " of " + count, INDEX, k, x -> use.of(x, index));
                    }
                }
                for (int index : count == 0 ? new int[0] : new int[] {0, count - 1}) {
                    KitePermits k = Check.office(BARE + Texts.KITE.repeat(count));
                    String answer = Check.outcome(() -> use.of(k, index));
                    Check.same(names[call] + " knows kite " + index + " of " + count, answer.equals("throws IndexOutOfBoundsException"), false);
                }
            }
            KitePermits gone = Check.office(BARE + Texts.KITE.repeat(2));
            gone.addKite(0, 0, 1, 0, 0, 0);
            gone.undo();
            Check.refused(names[call] + " of a kite that was undone", INDEX, gone, x -> use.of(x, 2));
        }
    }

    private static void oneOfTwoKites() {
        Check.sentence("Throws `IndexOutOfBoundsException` if one of the kites does not exist");
        KitePermits k = Check.office(FREE + "kite 0 5 9 0 0 0;kite 0 7 9 0 0 0;kite 0 9 9 0 0 0;");
        k.launch(0);
        k.launch(2);
        Check.same("doCross of the first and the last", k.doCross(0, 2, 0), false);
        Check.same("guiltyKite of the first and the last", k.guiltyKite(0, 2), 2);
        for (int kite : new int[] {-1, 3, MIN, MAX}) {
            for (int there : new int[] {0, 2}) {
                Check.refused("doCross, the first", INDEX, k, x -> bit(x.doCross(kite, there, 0)));
                Check.refused("doCross, the second", INDEX, k, x -> bit(x.doCross(there, kite, 0)));
                Check.refused("guiltyKite, the first", INDEX, k, x -> x.guiltyKite(kite, there));
                Check.refused("guiltyKite, the second", INDEX, k, x -> x.guiltyKite(there, kite));
            }
        }
    }

    private static void kiteNumbers() {
        Check.sentence(32, "Returns the coordinate.");
        KitePermits k = Texts.setup("field 100 90 0 0;zone 2 5;colour 9;colour 9;kite 0 89 1 0 0 0;kite 99 0 60 1 9 999;");
        Check.same("the smallest x", k.anchorX(0), 0);
        Check.same("the greatest x", k.anchorX(1), 99);
        Check.sentence(33, "Returns the coordinate.");
        Check.same("the greatest y", k.anchorY(0), 89);
        Check.same("the smallest y", k.anchorY(1), 0);
        Check.sentence(34, "Returns 1 to 60.");
        Check.same("the shortest string", k.stringLength(0), 1);
        Check.same("the longest string", k.stringLength(1), 60);
        Check.sentence(35, "Returns index of a colour.");
        Check.same("the first colour", k.colourOf(0), 0);
        Check.same("the last colour", k.colourOf(1), 1);
        Check.sentence(36, "Returns 0 to 9.");
        Check.same("no knots", k.knots(0), 0);
        Check.same("all knots", k.knots(1), 9);
        Check.sentence(37, "Returns the coins.");
        Check.same("no coins", k.purse(0), 0);
        Check.same("999 coins", k.purse(1), 999);
    }

    private static void states() {
        Check.sentence(38, "Returns 0 grounded, 1 flying, 2 tangled.");
        KitePermits k = Check.office(FREE + "kite 0 5 9 0 0 0;kite 1 5 9 0 0 0;");
        Check.same("grounded", k.stateOf(0), 0);
        k.launch(0);
        k.launch(1);
        Check.same("flying", k.stateOf(0), 1);
        k.passHours(1);
        Check.same("tangled", k.stateOf(0), 2);
        Check.same("tangled", k.stateOf(1), 2);
        k.repair(0);
        Check.same("grounded again", k.stateOf(0), 0);
    }

    private static void zones() {
        Check.sentence(39, "Returns index of a zone.");
        KitePermits k = Texts.setup("field 10 10 0 0;zone 0 0;zone 0 0;zone 0 0;zone 0 0;colour 0;kite 0 9 1 0 0 0;kite 2 0 1 0 0 0;kite 3 0 1 0 0 0;"
                + "kite 4 0 1 0 0 0;kite 5 0 1 0 0 0;kite 7 0 1 0 0 0;kite 8 0 1 0 0 0;kite 9 9 1 0 0 0;");
        int[] due = {0, 0, 1, 1, 2, 2, 3, 3};
        for (int kite = 0; kite < due.length; kite++) {
            Check.same("zone of kite " + kite, k.zoneOf(kite), due[kite]);
        }
    }

    private static void tangles() {
        Check.sentence(40, "Returns the number of verdicts with this kite since the setup.");
        String text = FREE + "kite 0 5 9 0 0 0;kite 1 5 9 0 0 0;";
        KitePermits k = Check.office(text);
        Check.same("none", k.tangles(0), 0);
        for (int time = 1; time <= 3; time++) {
            k.launch(0);
            k.launch(1);
            k.passHours(1);
            Check.same("tangles of kite 0", k.tangles(0), time);
            Check.same("tangles of kite 1", k.tangles(1), time);
            k.repair(0);
            k.repair(1);
        }
        Check.feed(k, text);
        k.loadSetup();
        Check.same("since the new setup", k.tangles(0), 0);
        k.undo();
        Check.same("since the old one", k.tangles(0), 3);
    }

    private static void reaches() {
        Check.sentence(41, "Returns the reach.");
        KitePermits k = Texts.setup("field 100 100 0 0;zone 2 9 2 0 2 1;colour 0;kite 99 0 60 0 0 0;kite 0 0 1 0 0 0;kite 0 0 60 0 9 0;kite 0 0 4 0 8 0;");
        Check.same("the greatest reach", k.reach(0, 0), 60);
        Check.same("no wind", k.reach(0, 1), 0);
        Check.same("a lift of 1", k.reach(0, 2), 12);
        Check.same("the smallest reach of all", k.reach(1, 0), 1);
        Check.same("a fifth of 1", k.reach(1, 2), 0);
        Check.same("a lift of 0", k.reach(2, 0), 0);
        Check.same("a lift of -8", k.reach(2, 2), 0);
        Check.same("four fifths", k.reach(3, 0), 0);
        Check.sentence(41, "Throws `IllegalArgumentException` if hour is out of range");
        Check.bounds("hour", 0, 999999, ARGUMENT, () -> k, (x, hour) -> x.reach(0, hour));
    }

    private static void ends() {
        Check.sentence(42, "Returns the coordinate, possibly outside the field.");
        KitePermits k = Texts.setup("field 100 100 0 0;zone 5 5 1 5 5 0;colour 0;kite 0 0 60 0 0 0;kite 99 99 60 0 0 0;");
        Check.same("the smallest x", k.endX(0, 0), -60);
        Check.same("the greatest x", k.endX(1, 1), 159);
        Check.same("the anchor", k.endX(1, 2), 99);
        Check.same("an x of the field", k.endX(1, 0), 39);
        Check.bounds("hour", 0, 999999, ARGUMENT, () -> k, (x, hour) -> x.endX(0, hour));
        Check.sentence(43, "Returns the coordinate, possibly outside the field.");
        Check.same("the smallest y", k.endY(0, 0), -60);
        Check.same("the greatest y", k.endY(1, 1), 159);
        Check.same("the anchor", k.endY(1, 2), 99);
        Check.same("a y of the field", k.endY(0, 1), 60);
        Check.bounds("hour", 0, 999999, ARGUMENT, () -> k, (x, hour) -> x.endY(0, hour));
    }

    private static void flights() {
        Check.sentence(44, "Returns true if it can.");
        KitePermits k = Texts.setup("field 50 60 0 0;zone 1 5 5 5 1 1 1 0;colour 0;kite 29 0 20 0 0 0;kite 30 0 20 0 0 0;kite 0 39 20 0 0 0;kite 0 40 20 0 0 0;"
                + "kite 20 20 20 0 0 0;kite 19 20 20 0 0 0;kite 20 19 20 0 0 0;kite 1 1 4 0 0 0;");
        int[][] due = {{0, 0, 1}, {1, 0, 0}, {2, 0, 1}, {3, 0, 0}, {4, 1, 1}, {5, 1, 0}, {6, 1, 0}, {7, 2, 0}, {7, 3, 0}, {0, 2, 1}, {0, 4, 1}};
        for (int[] d : due) {
            Check.same("canFly(" + d[0] + ", " + d[1] + ")", bit(k.canFly(d[0], d[1])), d[2]);
        }
        Check.sentence(44, "Throws `IllegalArgumentException` if hour is out of range");
        Check.bounds("hour", 0, 999999, ARGUMENT, () -> k, (x, hour) -> bit(x.canFly(0, hour)));
    }

    private static void crossings() {
        Check.sentence(45, "Tells whether the strings of two kites cross in an hour, whether they fly or not.");
        // Both ends lie outside the field in hour 0, so neither kite can fly; in hour 1 one of them can.
        KitePermits k = Texts.setup("field 20 20 0 0;zone 2 5 4 5;colour 0;kite 15 5 9 0 0 0;kite 19 5 9 0 0 0;kite 15 14 9 0 0 0;");
        Check.same("none of them can fly", k.canFly(0, 0) || k.canFly(1, 0), false);
        Check.same("they cross", k.doCross(0, 1, 0), true);
        Check.same("in another hour they do not", k.doCross(0, 1, 1), false);
        Check.same("one flies upon the other", k.doCross(2, 0, 1), true);
        Check.same("the wind comes again", k.doCross(0, 1, 999998), true);
        Check.same("the wind comes again", k.doCross(0, 1, 999999), false);
        Check.sentence(45, "A string with the reach 0 is the anchor alone.");
        KitePermits calm = Texts.setup("field 20 20 0 0;zone 2 5 2 0;colour 0;kite 5 5 4 0 9 0;kite 0 5 5 0 0 0;kite 0 5 4 0 0 0;kite 5 5 1 0 9 0;kite 6 5 9 0 9 0;kite 5 4 9 0 0 0;");
        Check.same("an end upon the anchor", calm.doCross(0, 1, 0), true);
        Check.same("an end one step before it", calm.doCross(0, 2, 0), false);
        Check.same("two anchors at one point", calm.doCross(0, 3, 0), true);
        Check.same("two anchors side by side", calm.doCross(0, 4, 0), false);
        Check.same("a line beside the anchor", calm.doCross(0, 5, 0), false);
        Check.same("no wind for both", calm.doCross(0, 1, 1), false);
        Check.same("no wind for both at one point", calm.doCross(0, 3, 1), true);
        Check.sentence(45, "Throws `IllegalArgumentException` if both are the same, or hour is out of range");
        Check.bounds("hour", 0, 999999, ARGUMENT, () -> calm, (x, hour) -> bit(x.doCross(0, 5, hour)));
        Check.refused("the same", ARGUMENT, calm, x -> bit(x.doCross(5, 5, 0)));
        Check.refused("the same in no hour", ARGUMENT, calm, x -> bit(x.doCross(0, 0, -1)));
    }

    // ---- promises 46 to 50

    private static KitePermits permits(int count) {
        KitePermits k = Check.office(FREE + "kite 0 5 9 0 0 0;kite 0 7 9 0 0 0;");
        for (int i = 0; i < count; i++) {
            k.permit(i % 2, 2 * i, 1 + i % 3);
        }
        return k;
    }

    private static void permitCounts() {
        Check.sentence(46, "Returns 0 to 30.");
        for (int count = 0; count <= 30; count++) {
            Check.same("permitCount", permits(count).permitCount(), count);
        }
    }

    private static void permitList() {
        Check.sentence("Throws `IndexOutOfBoundsException` if the permit does not exist");
        for (int count : new int[] {1, 2, 29, 30}) {
            Check.bounds("permitKite of " + count, 0, count - 1, INDEX, () -> permits(count), (k, permit) -> k.permitKite(permit));
            Check.bounds("permitStart of " + count, 0, count - 1, INDEX, () -> permits(count), (k, permit) -> k.permitStart(permit));
            Check.bounds("permitDuration of " + count, 0, count - 1, INDEX, () -> permits(count), (k, permit) -> k.permitDuration(permit));
        }
        KitePermits none = permits(0);
        KitePermits ended = permits(1);
        ended.passHours(1);
        for (int permit : new int[] {-1, 0, 1, MIN, MAX}) {
            for (KitePermits k : new KitePermits[] {none, ended}) {
                Check.refused("permitKite of none", INDEX, k, x -> x.permitKite(permit));
                Check.refused("permitStart of none", INDEX, k, x -> x.permitStart(permit));
                Check.refused("permitDuration of none", INDEX, k, x -> x.permitDuration(permit));
            }
        }
        KitePermits full = permits(30);
        Check.same("the kite of the last one", full.permitKite(29), 1);
        Check.same("the start of the last one", full.permitStart(29), 58);
        Check.same("the duration of the last one", full.permitDuration(29), 3);
    }

    private static void durations() {
        Check.sentence(49, "Returns 1 to 24.");
        KitePermits k = permits(0);
        k.permit(0, 0, 1);
        k.permit(1, 999999, 24);
        Check.same("the shortest", k.permitDuration(0), 1);
        Check.same("the longest", k.permitDuration(1), 24);
        k.passHours(1);
        Check.same("the longest is the first now", k.permitDuration(0), 24);
    }

    private static void coverings() {
        Check.sentence(50, "Returns true if one of its permits covers the hour.");
        KitePermits k = permits(0);
        Check.same("no permits", k.hasPermit(0, 0), false);
        k.permit(0, 3, 1);
        k.permit(0, 5, 24);
        k.permit(1, 4, 1);
        int[] hours = {2, 3, 4, 5, 28, 29, 999999};
        boolean[] due = {false, true, false, true, true, false, false};
        for (int i = 0; i < hours.length; i++) {
            Check.same("hour " + hours[i], k.hasPermit(0, hours[i]), due[i]);
            Check.same("hour " + hours[i] + " of the other kite", k.hasPermit(1, hours[i]), hours[i] == 4);
        }
        k.permit(0, 999999, 1);
        Check.same("the last hour", k.hasPermit(0, 999999), true);
        Check.sentence(50, "Throws `IllegalArgumentException` if hour is out of range");
        Check.bounds("hour", 0, 999999, ARGUMENT, () -> k, (x, hour) -> bit(x.hasPermit(0, hour)));
    }

    // ---- promises 51 to 56

    private static void reasons() {
        Check.sentence(51, "Returns the reason, 1 to 7; 0 if it would not be refused.");
        KitePermits k = Check.office("field 40 20 5 0;zone 2 5 2 0;colour 1;colour 9;kite 0 5 9 0 0 5;kite 0 9 9 0 0 99;kite 1 9 9 1 0 999;");
        Check.same("not refused", k.whyNotPermit(0, 0, 1), 0);
        Check.same("the first hour without wind", k.whyNotPermit(0, 1, 1), 5);
        k.permit(1, 2, 1);
        Check.same("an own permit", k.whyNotPermit(1, 2, 1), 3);
        Check.same("the quota", k.whyNotPermit(0, 2, 1), 4);
        Check.same("a string in the way", k.whyNotPermit(2, 2, 1), 6);
        Check.same("purse and price", k.whyNotPermit(0, 4, 1), 0);
        k.permit(0, 4, 1);
        Check.same("an empty purse", k.whyNotPermit(0, 6, 1), 7);
        k.passHours(1);
        Check.same("the past", k.whyNotPermit(0, 0, 1), 1);
        for (int i = 0; i < 28; i++) {
            k.permit(2, 100 + 2 * i, 1);
        }
        Check.same("30 permits", k.whyNotPermit(2, 998, 1), 2);
        Check.sentence(51, "Throws `IllegalArgumentException` if start or duration is out of range");
        Check.bounds("start", 0, 999999, ARGUMENT, () -> k, (x, start) -> x.whyNotPermit(0, start, 1));
        Check.bounds("duration", 1, 24, ARGUMENT, () -> k, (x, duration) -> x.whyNotPermit(0, 0, duration));
    }

    private static void inTheWay() {
        Check.sentence(52, "Returns the other kite whose string is crossed in one of the hours in which it has a permit (as doCross tells,"
                + " whether the kite itself can fly or not), the smallest index of several; NONE if there is none.");
        // 0 is blown out, 1 has knots, 2, 3 and 4 lie one behind the other, 5 stands apart.
        KitePermits k = Check.office("field 40 20 0 0;zone 2 5;colour 9;kite 10 5 60 0 0 0;kite 25 5 9 0 9 0;kite 10 5 5 0 0 0;kite 16 5 5 0 0 0;kite 22 5 5 0 0 0;kite 10 6 9 0 0 0;");
        Check.same("no permits", k.kiteInTheWay(0, 0, 24), NONE);
        k.permit(5, 0, 24);
        Check.same("a permit of a kite apart", k.kiteInTheWay(0, 0, 24), NONE);
        k.permit(4, 10, 3);
        Check.same("up to the hour before", k.kiteInTheWay(0, 0, 10), NONE);
        Check.same("up to its first hour", k.kiteInTheWay(0, 0, 11), 4);
        Check.same("its last hour", k.kiteInTheWay(0, 12, 1), 4);
        Check.same("the hour after", k.kiteInTheWay(0, 13, 24), NONE);
        Check.same("a kite with the reach 0", k.kiteInTheWay(1, 10, 1), 4);
        Check.same("a kite that it does not touch", k.kiteInTheWay(3, 10, 3), NONE);
        Check.same("the kite itself", k.kiteInTheWay(4, 10, 3), NONE);
        k.permit(2, 13, 1);
        k.permit(3, 12, 1);
        Check.same("the smallest of three", k.kiteInTheWay(0, 10, 4), 2);
        Check.same("the smallest of two", k.kiteInTheWay(0, 10, 3), 3);
        Check.same("only one", k.kiteInTheWay(0, 10, 2), 4);
        Check.same("the smallest of three from the other side", k.kiteInTheWay(0, 12, 2), 2);
        k.cancelPermits(2);
        Check.same("the smallest of two, cancelled", k.kiteInTheWay(0, 10, 4), 3);
        k.cancelPermits(3);
        k.cancelPermits(4);
        Check.same("none is left", k.kiteInTheWay(0, 0, 24), NONE);
        k.permit(3, 999999, 24);
        Check.same("the last start hour", k.kiteInTheWay(0, 999999, 1), 3);
        Check.same("up to the last start hour", k.kiteInTheWay(0, 999976, 24), 3);
        Check.same("up to the hour before it", k.kiteInTheWay(0, 999975, 24), NONE);
        Check.sentence(52, "Throws `IllegalArgumentException` if start or duration is out of range");
        Check.bounds("start", 0, 999999, ARGUMENT, () -> k, (x, start) -> x.kiteInTheWay(0, start, 1));
        Check.bounds("duration", 1, 24, ARGUMENT, () -> k, (x, duration) -> x.kiteInTheWay(0, 0, duration));
    }

    private static void earliestStarts() {
        Check.sentence(53, "Returns the smallest hour, from the present one to the present one plus 60, from which a permit would not be refused;"
                + " NONE if there is none.");
        for (int now : new int[] {0, 7, 48}) {
            KitePermits k = Check.office(FREE + "kite 0 5 9 0 0 0;");
            if (now > 0) {
                k.passHours(now);
            }
            Check.same("the present hour", k.earliestStart(0, 24), now);
            k.permit(0, now, 1);
            Check.same("the next hour", k.earliestStart(0, 24), now + 1);
            k.permit(0, now + 1, 24);
            k.permit(0, now + 25, 24);
            k.permit(0, now + 49, 10);
            Check.same("the present hour plus 59", k.earliestStart(0, 1), now + 59);
            k.permit(0, now + 59, 1);
            Check.same("the present hour plus 60", k.earliestStart(0, 1), now + 60);
            Check.same("the present hour plus 60, for 24", k.earliestStart(0, 24), now + 60);
            k.permit(0, now + 60, 1);
            Check.same("the present hour plus 61 is too late", k.earliestStart(0, 1), NONE);
            Check.same("though it would be granted", k.whyNotPermit(0, now + 61, 1), 0);
            k.passHours(1);
            Check.same("an hour later it is not too late", k.earliestStart(0, 1), now + 61);
        }
        KitePermits gaps = Check.office(FREE + "kite 0 5 9 0 0 0;");
        gaps.permit(0, 2, 1);
        gaps.permit(0, 5, 1);
        Check.same("a gap of two", gaps.earliestStart(0, 2), 0);
        Check.same("a gap of three is none", gaps.earliestStart(0, 3), 6);
        Check.same("a kite that cannot fly", Check.office(FREE + "kite 39 5 9 0 0 0;").earliestStart(0, 1), NONE);
        Check.sentence(53, "Throws `IllegalArgumentException` if duration is out of range");
        Check.bounds("duration", 1, 24, ARGUMENT, () -> gaps, (x, duration) -> x.earliestStart(0, duration));
    }

    private static void bestKnots() {
        Check.sentence(54, "Returns of the numbers of knots, 0 to 9, with which the kite could fly in this hour, the one with the greatest reach,"
                + " the smallest number among equals; NONE if there is none.");
        // {force, x, length, due}, the wind blows to the right on a field with the width 40
        int[][] due = {{9, 0, 5, 0}, {5, 0, 5, 0}, {1, 0, 5, 0}, {0, 0, 5, NONE}, {1, 0, 4, NONE}, {2, 0, 4, 0}, {9, 39, 60, NONE}, {9, 28, 60, NONE},
            {9, 27, 60, 8}, {9, 16, 60, 8}, {9, 15, 60, 7}, {9, 4, 60, 7}, {9, 3, 60, 6}, {5, 27, 60, 4}, {4, 27, 60, 3}, {1, 27, 60, 0},
            {9, 35, 5, 5}, {9, 34, 5, 0}, {9, 38, 5, 8}, {9, 39, 1, NONE}, {9, 38, 1, 0}, {9, 38, 2, 5}, {9, 37, 3, 5}, {8, 38, 3, 5}};
        for (int[] d : due) {
            KitePermits k = Check.office("field 40 10 0 0;zone 2 " + d[0] + ";colour 0;kite " + d[1] + " 0 " + d[2] + " 0 7 0;");
            Check.same("force " + d[0] + ", x = " + d[1] + ", length " + d[2], k.bestKnots(0, 999999), d[3]);
            Check.same("the knots stay", k.knots(0), 7);
        }
        KitePermits turning = Check.office("field 40 10 0 0;zone 2 9 6 9;colour 0;kite 39 0 5 0 0 0;");
        Check.same("no room to the right", turning.bestKnots(0, 0), NONE);
        Check.same("room to the left", turning.bestKnots(0, 1), 0);
        Check.same("the first wind again", turning.bestKnots(0, 2), NONE);
        Check.sentence(54, "Throws `IllegalArgumentException` if hour is out of range");
        Check.bounds("hour", 0, 999999, ARGUMENT, () -> turning, (x, hour) -> x.bestKnots(0, hour));
    }

    private static void guiltyKites() {
        Check.sentence(55, "Returns the kite that would be guilty if the strings of two flying kites crossed in the present hour.");
        KitePermits k = Check.office(FREE + "kite 0 5 9 0 0 0;kite 0 7 9 0 0 0;kite 0 9 9 0 0 0;");
        k.launch(1);
        k.launch(0);
        Check.same("launched later, though they do not cross", k.guiltyKite(0, 1), 0);
        Check.same("the other way round", k.guiltyKite(1, 0), 0);
        k.permit(0, 1, 1);
        Check.same("a permit from the next hour on", k.guiltyKite(0, 1), 0);
        k.passHours(1);
        Check.same("a permit for the present hour", k.guiltyKite(0, 1), 1);
        Check.same("the other way round", k.guiltyKite(1, 0), 1);
        k.permit(1, 1, 24);
        Check.same("both have one", k.guiltyKite(1, 0), 0);
        k.passHours(1);
        Check.same("one has ended", k.guiltyKite(1, 0), 0);
        Check.sentence(55, "Throws `IllegalArgumentException` if both are the same");
        Check.refused("twice a flying kite", ARGUMENT, k, x -> x.guiltyKite(1, 1));
        Check.refused("twice a grounded kite", ARGUMENT, k, x -> x.guiltyKite(2, 2));
        Check.sentence(55, "Throws `IllegalStateException` if one of them is not flying");
        Check.refused("the second on the ground", STATE, k, x -> x.guiltyKite(0, 2));
        Check.refused("the first on the ground", STATE, k, x -> x.guiltyKite(2, 0));
        k.land(0);
        k.land(1);
        Check.refused("both on the ground", STATE, k, x -> x.guiltyKite(0, 1));
    }

    private static void forecasts() {
        Check.sentence(56, "Returns the number of verdicts in the next hours, if only hours pass.");
        Check.same("no kites", Texts.setup(BARE).verdictsIn(100), 0);
        KitePermits k = Check.office(FREE + "kite 0 5 9 0 0 0;kite 1 5 9 0 0 0;");
        Check.same("none flies", k.verdictsIn(100), 0);
        k.launch(0);
        k.launch(1);
        Check.same("no hours, though they cross now", k.verdictsIn(0), 0);
        Check.same("one hour", k.verdictsIn(1), 1);
        Check.same("100 hours", k.verdictsIn(100), 1);
        // Zones of 5 and 6 winds: the strings meet in every 30th hour.
        KitePermits late = Check.office("field 40 20 0 9;zone 2 5 2 1 2 1 2 1 2 1;zone 6 5 6 1 6 1 6 1 6 1 6 1;colour 9;kite 14 5 10 0 0 0;kite 30 5 10 0 0 0;");
        late.launch(0);
        late.launch(1);
        Check.same("29 hours", late.verdictsIn(29), 0);
        Check.same("30 hours", late.verdictsIn(30), 1);
        // Kite 0 turns to the right in hours 4, 9 .., and kite 1 to the left in hours 3, 7 ..
        KitePermits slow = Check.office("field 60 20 0 9;zone 0 5 0 5 0 5 0 5 2 5;zone 0 5 0 5 0 5 6 5;zone 0 5;colour 9;kite 15 5 9 0 0 0;kite 33 5 9 0 0 0;");
        slow.passHours(20);
        slow.launch(0);
        slow.launch(1);
        // Hour 39 is the first of both: 39 = 4 of 5 and 3 of 4.
        Check.same("18 hours", slow.verdictsIn(18), 0);
        Check.same("19 hours", slow.verdictsIn(19), 1);
        Check.same("and so it happens", slow.passHours(19), 1);
        Check.sentence(56, "Throws `IllegalArgumentException` if hours is out of range");
        Check.bounds("hours", 0, 100, ARGUMENT, () -> late, (x, hours) -> x.verdictsIn(hours));
    }

    private static void hoursAhead() {
        Check.sentence(56, "`hours`: 0 to 100");
        // Two kites have at most 5 and 6 winds, so a verdict that comes at all comes within 30 hours.
        KitePermits k = Check.office("field 40 20 0 9;zone 2 5 2 1 2 1 2 1 2 1;zone 6 5 6 1 6 1 6 1 6 1 6 1;colour 9;kite 14 5 10 0 0 0;kite 30 5 10 0 0 0;");
        k.passHours(48);
        k.passHours(42);
        k.launch(0);
        k.launch(1);
        int[] hours = {0, 1, 29, 30, 31, 99, 100};
        int[] due = {0, 0, 0, 1, 1, 1, 1};
        for (int i = 0; i < hours.length; i++) {
            Check.same("verdictsIn(" + hours[i] + ")", k.verdictsIn(hours[i]), due[i]);
        }
        Check.refused("101 hours", ARGUMENT, k, x -> x.verdictsIn(101));
        Check.refused("-1 hours", ARGUMENT, k, x -> x.verdictsIn(-1));
    }

    // ---- promises 57 to 63

    private static void officeCoins() {
        Check.sentence(57, "Returns the prices that were paid to the office since the setup.");
        String text = "field 40 20 20 7;zone 2 5;colour 9;kite 0 5 9 0 1 999;kite 1 5 9 0 0 999;";
        KitePermits k = Check.office(text);
        Check.same("none", k.officeCoins(), 0);
        k.permit(0, 9, 24);
        Check.same("the greatest price", k.officeCoins(), 480);
        k.launch(0);
        k.launch(1);
        k.passHours(1);
        Check.same("a fine is none", k.officeCoins(), 480);
        k.repair(0);
        Check.same("a repair", k.officeCoins(), 482);
        k.repair(1);
        Check.same("a repair without knots", k.officeCoins(), 482);
        Check.feed(k, text);
        k.loadSetup();
        Check.same("since the new setup", k.officeCoins(), 0);
        KitePermits free = Check.office(FREE + "kite 0 5 9 0 0 0;");
        free.permit(0, 0, 24);
        Check.same("a price of 0", free.officeCoins(), 0);
    }

    private static void coinErrors() {
        Check.sentence(58, "Returns the purses of the setup and of added kites, plus the coins that were put in by fund, minus all purses and the"
                + " coins of the office; this is always 0.");
        Check.same("no kites", Texts.setup(BARE).coinError(), 0);
        KitePermits k = Texts.setup(BARE + "kite 0 0 1 0 0 999;".repeat(16));
        Check.same("16 full purses", k.coinError(), 0);
        KitePermits all = Check.office("field 40 20 20 50;zone 2 9;colour 9;kite 0 5 9 0 4 999;kite 1 5 9 0 0 60;");
        all.addKite(0, 9, 1, 0, 0, 999);
        Check.same("after addKite", all.coinError(), 0);
        all.permit(2, 0, 24);
        Check.same("after permit", all.coinError(), 0);
        all.launch(0);
        all.launch(1);
        all.passHours(1);
        Check.same("after a fine", all.coinError(), 0);
        all.repair(0);
        Check.same("after repair", all.coinError(), 0);
        for (int i = 0; i < 102; i++) {
            all.fund(0, 999);
        }
        Check.same("after coins that were not put in", all.coinError(), 0);
        Check.script(all, "pay 0 999;pay 1 1;");
        Check.same("after pay", all.coinError(), 0);
        all.undo();
        Check.same("after undo", all.coinError(), 0);
        all.saveSnapshot(0);
        all.fund(1, 5);
        all.restoreSnapshot(0);
        Check.same("after restoreSnapshot", all.coinError(), 0);
    }

    private static void permittedCrossings() {
        Check.sentence(59, "Returns the number of triples of two different kites and an hour that is the present one or later, in which both have a"
                + " permit and their strings cross, each pair counted once an hour; this is always 0.");
        Check.same("no kites", Texts.setup(BARE).permittedCrossings(), 0);
        // The strings meet in hours 0, 3, 6 .. only.
        KitePermits k = Check.office("field 40 20 0 0;zone 2 5;zone 6 5 0 5 0 5;colour 9;kite 10 5 9 0 0 0;kite 28 5 9 0 0 0;");
        k.permit(0, 0, 24);
        k.permit(1, 1, 2);
        k.permit(1, 4, 2);
        k.permit(1, 24, 24);
        Check.same("permits between the crossings", k.permittedCrossings(), 0);
        Check.refused("a permit for a crossing", STATE, k, x -> x.permit(1, 3, 1));
        // One pair of strings that always cross, with permits that follow one another.
        KitePermits pair = Check.office(FREE + "kite 0 5 9 0 0 0;kite 1 5 9 0 0 0;");
        pair.permit(0, 0, 3);
        pair.permit(1, 3, 3);
        pair.permit(0, 6, 1);
        Check.same("one after the other", pair.permittedCrossings(), 0);
        pair.passHours(3);
        Check.same("in the hour between", pair.permittedCrossings(), 0);
        // Knots cannot be untied under a permit, for the permit is gone then.
        KitePermits knots = Check.office("field 40 20 0 0;zone 2 5;colour 9;kite 0 5 9 0 4 0;kite 5 5 9 0 0 0;");
        knots.permit(0, 0, 9);
        knots.permit(1, 0, 9);
        knots.tieKnots(0, 0);
        Check.same("without knots", knots.permittedCrossings(), 0);
    }

    private static void meanReaches() {
        Check.sentence(60, "Returns (double) (sum of the reaches of the flying kites) / (double) (number of flying kites); 0.0 if none is flying.");
        Check.same("no kites", Texts.setup(BARE).meanReach(), 0.0);
        KitePermits k = Check.office("field 100 20 0 0;zone 2 5 2 1;colour 0;kite 0 0 60 0 0 0;kite 0 2 1 0 0 0;kite 0 4 6 0 0 0;kite 0 4 9 0 0 0;kite 0 9 60 0 0 0;");
        Check.same("none is flying", k.meanReach(), 0.0);
        k.launch(1);
        Check.same("one with a reach of 1", k.meanReach(), 1.0);
        k.launch(0);
        Check.same("61 of 2", k.meanReach(), 30.5);
        k.launch(2);
        Check.same("67 of 3", k.meanReach(), 67.0 / 3.0);
        k.launch(3);
        Check.same("76 of 4", k.meanReach(), 19.0);
        k.passHours(1);
        // Kite 1 is grounded, kites 2 and 3 are tangled.
        Check.same("one flies on with a fifth", k.meanReach(), 12.0);
        k.land(0);
        Check.same("none flies on", k.meanReach(), 0.0);
        StringBuilder rows = new StringBuilder(FREE);
        for (int row = 0; row < 16; row++) {
            rows.append("kite 0 ").append(row).append(' ').append(row + 1).append(" 0 0 0;");
        }
        KitePermits all = Texts.setup(rows.toString());
        for (int kite = 0; kite < 16; kite++) {
            all.launch(kite);
            Check.same("the mean of 1 to " + (kite + 1), all.meanReach(), (kite + 2) / 2.0);
        }
    }

    private static void tangledShares() {
        Check.sentence(61, "Returns (float) (tangled kites) / (float) (number of kites); 0.0f if there are none.");
        Check.same("no kites", Texts.setup(BARE).tangledShare(), 0.0f);
        StringBuilder line = new StringBuilder(FREE);
        for (int kite = 0; kite < 16; kite++) {
            line.append("kite ").append(kite % 3).append(" 5 9 0 0 0;");
        }
        KitePermits k = Texts.setup(line.toString());
        Check.same("none of 16", k.tangledShare(), 0.0f);
        for (int kite = 0; kite < 16; kite++) {
            k.launch(kite);
        }
        Check.same("16 flying kites", k.tangledShare(), 0.0f);
        k.passHours(1);
        Check.same("all of 16", k.tangledShare(), 1.0f);
        for (int kite = 0; kite < 16; kite++) {
            k.repair(kite);
            Check.same("all but " + (kite + 1), k.tangledShare(), (float) (15 - kite) / 16.0f);
        }
        KitePermits three = Check.office(FREE + "kite 0 5 9 0 0 0;kite 1 5 9 0 0 0;kite 0 9 9 0 0 0;");
        three.launch(0);
        three.launch(1);
        three.passHours(1);
        Check.same("two of three", three.tangledShare(), 2.0f / 3.0f);
    }

    private static void writtenPermits() {
        Check.sentence(62, "Writes the list of permits to the output text, replacing the previous text: for each permit the kite, a colon (byte 58),"
                + " the start hour, a plus sign (byte 43) and the duration, the numbers in decimal.");
        KitePermits k = Check.office(FREE + "kite 0 5 9 0 0 0;".repeat(10) + "kite 0 7 9 0 0 0;");
        Check.same("an empty list", Check.output(k), "");
        k.permit(0, 0, 1);
        Check.same("the shortest numbers", Check.output(k), "0:0+1");
        k.permit(10, 999999, 24);
        Check.same("the longest numbers", Check.output(k), "0:0+1 10:999999+24");
        int[] starts = {9, 10, 99, 100, 999, 1000, 9999, 10000, 99999, 100000};
        StringBuilder due = new StringBuilder();
        k.cancelPermits(0);
        k.cancelPermits(10);
        for (int start : starts) {
            k.permit(9, start, 1);
            due.append(due.length() == 0 ? "" : " ").append("9:").append(start).append("+1");
        }
        Check.same("more and more digits", Check.output(k), due.toString());
        k.cancelPermits(9);
        k.permit(9, 7, 10);
        Check.same("the previous text is replaced by a shorter one", Check.output(k), "9:7+10");
        Check.same("nothing is left behind it", k.outputByte(6), NONE);
        k.cancelPermits(9);
        Check.same("an empty list again", Check.output(k), "");
        Check.same("nothing is left", k.outputByte(0), NONE);
        Check.sentence(62, "A space (byte 32) stands between two permits.");
        k.permit(0, 0, 1);
        k.permit(10, 0, 2);
        k.writePermits();
        int[] bytes = {'0', 58, '0', 43, '1', 32, '1', '0', 58, '0', 43, '2', NONE};
        for (int i = 0; i < bytes.length; i++) {
            Check.same("byte " + i, k.outputByte(i), bytes[i]);
        }
    }

    private static void fullText() {
        Check.sentence(62, "Returns the length of the output text.");
        Check.same("no permits", new KitePermits().writePermits(), 0);
        // Six kites with two digits, each with five permits with six digits that follow one another.
        StringBuilder text = new StringBuilder(FREE + "kite 0 19 1 0 9 0;".repeat(10));
        for (int kite = 10; kite < 16; kite++) {
            text.append("kite 0 ").append(kite).append(" 9 0 0 0;");
        }
        KitePermits k = Texts.setup(text.toString());
        StringBuilder due = new StringBuilder();
        for (int i = 0; i < 30; i++) {
            int kite = 10 + i % 6;
            int start = 999999 - 24 * (i / 6);
            k.permit(kite, start, 24);
            due.append(i == 0 ? "" : " ").append(kite).append(':').append(start).append("+24");
        }
        Check.same("30 permits", k.writePermits(), 389);
        Check.same("the text", Check.output(k), due.toString());
        Check.same("written again", k.writePermits(), 389);
    }

    private static void outputBytes() {
        Check.sentence(63, "Returns the byte; NONE if index is negative or not less than the length of the text.");
        KitePermits k = permits(0);
        for (int index : new int[] {0, 1, -1, MIN, MAX}) {
            Check.same("byte " + index + " of no text", k.outputByte(index), NONE);
        }
        k.permit(1, 20, 3);
        Check.same("not written yet", k.outputByte(0), NONE);
        int length = k.writePermits();
        Check.same("length", length, 6);
        int[] indexes = {0, 5, 6, 7, -1, MIN, MAX, 389, 390, 500};
        int[] due = {'1', '3', NONE, NONE, NONE, NONE, NONE, NONE, NONE, NONE};
        for (int i = 0; i < indexes.length; i++) {
            Check.same("byte " + indexes[i], k.outputByte(indexes[i]), due[i]);
        }
        k.cancelPermits(1);
        Check.same("the text stays until it is written again", k.outputByte(5), '3');
        k.writePermits();
        Check.same("an empty text", k.outputByte(0), NONE);
    }

    public static void main(String[] args) {
        hoursSinceSetup();
        fieldNumbers();
        windDirections();
        windForces();
        quotas();
        quotasUsed();
        kiteCounts();
        noSuchKite();
        oneOfTwoKites();
        kiteNumbers();
        states();
        zones();
        tangles();
        reaches();
        ends();
        flights();
        crossings();
        permitCounts();
        permitList();
        durations();
        coverings();
        reasons();
        inTheWay();
        earliestStarts();
        bestKnots();
        guiltyKites();
        forecasts();
        hoursAhead();
        officeCoins();
        coinErrors();
        permittedCrossings();
        meanReaches();
        tangledShares();
        writtenPermits();
        fullText();
        outputBytes();
        Check.finish("QuestionCallsBoundsTest");
    }
}
