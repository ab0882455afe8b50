import java.util.NoSuchElementException;

/** The section "Terms", undo and exceptions, and the number of calls: each sentence that names a boundary case. */
final class StateBoundsTest {
    private static final Class<?> INDEX = IndexOutOfBoundsException.class;
    private static final Class<?> ARGUMENT = IllegalArgumentException.class;
    private static final Class<?> STATE = IllegalStateException.class;
    private static final Class<?> MISSING = NoSuchElementException.class;
    private static final int MIN = Integer.MIN_VALUE;
    private static final int MAX = Integer.MAX_VALUE;
    private static final String SETUP = "field 30 20 1 10;zone 2 9;colour 2;colour 1;"
            + "kite 0 1 9 0 0 50;kite 0 3 9 0 0 40;kite 0 5 9 0 5 19;kite 1 5 9 0 4 9;kite 25 7 9 0 0 9;kite 0 9 9 0 1 0;";
    private static final int CHANGES = 7;

    private StateBoundsTest() {
    }

    /**
     * Kite 0 is grounded, 1 is flying, 2 and 3 are tangled and 3 has a coin too little for its repair, 4 cannot
     * fly, 5 is poor. There are two permits, seven changes, a snapshot in slot 1, an output text, a reported
     * error and eight bytes of input.
     */
    private static KitePermits busy() {
        KitePermits k = Check.office(SETUP);
        k.launch(2);
        k.launch(3);
        k.launch(1);
        k.passHours(1);
        k.saveSnapshot(1);
        k.permit(0, 2, 2);
        k.writePermits();
        k.permit(1, 1, 3);
        Check.feed(k, "hours 49;");
        Check.badArgument("a script with an error", () -> k.runScript());
        Check.feed(k, "hours 2;");
        return k;
    }

    /** What comes of the parts of an office that no question shows: the changes, the snapshots and the input. */
    private static String hidden(KitePermits k) {
        StringBuilder text = new StringBuilder();
        text.append(Check.outcome(() -> k.truncate(9))).append(' ').append(Check.outcome(() -> k.truncate(8))).append('\n');
        text.append(Check.outcome(() -> k.runScript())).append('\n').append(Picture.of(k));
        text.append(Check.outcome(() -> k.restoreSnapshot(0))).append(' ');
        text.append(Check.outcome(() -> k.restoreSnapshot(1))).append('\n').append(Picture.state(k));
        for (int i = 0; i < 9; i++) {
            text.append(Check.outcome(() -> k.undo())).append('\n').append(Picture.state(k));
        }
        return text.toString();
    }

    private static void busyItself() {
        Check.sentence("");
        KitePermits k = busy();
        int[] states = {0, 1, 2, 2, 0, 0};
        for (int kite = 0; kite < states.length; kite++) {
            Check.same("state of kite " + kite, k.stateOf(kite), states[kite]);
        }
        Check.same("permits", k.permitCount(), 2);
        Check.same("a coin", k.purse(2), 28);
        Check.same("no coin", k.purse(3), 0);
        Check.same("the output", k.outputByte(4), '2');
        Check.same("the error", k.errorPosition(), 6);
        Check.same("the script", k.runScript(), 1);
        Check.same("hour", k.hour(), 3);
        Check.same("undo", k.undo(), CHANGES);
        Check.same("undo", k.undo(), CHANGES - 1);
        Check.same("permits", k.permitCount(), 1);
    }

    // ---- undo

    private static KitePermits tangledPair() {
        KitePermits k = Check.office("field 20 20 0 0;zone 2 5;colour 9;kite 0 5 9 0 0 9;kite 1 5 9 0 0 9;");
        k.launch(0);
        k.launch(1);
        k.passHours(1);
        return k;
    }

    private static void undoable(String what, KitePermits k, Check.Use change, boolean isOther) {
        String before = Picture.state(k);
        Check.same(what + " throws", Check.outcome(() -> change.of(k)).startsWith("throws"), false);
        Check.same(what + " changes the state", !Picture.state(k).equals(before), isOther);
        int left = k.undo();
        Check.same(what + " is undone", Picture.state(k), before);
        Check.same(what + " is one change", Check.outcome(() -> k.undo()), left == 0 ? "throws NoSuchElementException" : "" + (left - 1));
    }

    private static void everyChange() {
        Check.sentence("The methods in the section \"changes\" are undoable if they return normally, even if nothing is different afterwards.");
        undoable("loadSetup", loaded(busy(), Texts.FIELD + Texts.ZONE + Texts.COLOUR), k -> k.loadSetup(), true);
        undoable("loadSetup of the same", loaded(Check.office(SETUP), SETUP), k -> k.loadSetup(), false);
        undoable("runScript", busy(), k -> k.runScript(), true);
        undoable("runScript of nothing", loaded(busy(), ""), k -> k.runScript(), false);
        undoable("runScript of a refused command", loaded(busy(), "land 0;"), k -> k.runScript(), false);
        undoable("runScript of \"cancel 5;\"", loaded(busy(), "cancel 5;"), k -> k.runScript(), false);
        undoable("addKite", busy(), k -> k.addKite(0, 0, 1, 0, 0, 0), true);
        undoable("launch", busy(), k -> k.launch(0), true);
        undoable("land", busy(), k -> k.land(1), true);
        undoable("passHours", busy(), k -> k.passHours(1), true);
        undoable("passHours of 48", busy(), k -> k.passHours(48), true);
        undoable("permit", busy(), k -> k.permit(0, 9, 1), true);
        undoable("cancelPermits", busy(), k -> k.cancelPermits(0), true);
        undoable("cancelPermits of none", busy(), k -> k.cancelPermits(5), false);
        undoable("tieKnots", busy(), k -> k.tieKnots(5, 3), true);
        undoable("tieKnots with the same number", busy(), k -> k.tieKnots(5, 1), false);
        undoable("tieKnots with the same number and permits", busy(), k -> k.tieKnots(0, 0), true);
        undoable("repair", busy(), k -> k.repair(2), true);
        undoable("fund", busy(), k -> k.fund(0, 1), true);
        KitePermits full = busy();
        for (int i = 0; i < 6; i++) {
            loaded(full, "pay 0 999;".repeat(20)).runScript();
        }
        Check.same("a full purse", full.purse(0), 99999);
        undoable("fund of a full purse", full, k -> k.fund(0, 999), false);
        undoable("restoreSnapshot", busy(), k -> k.restoreSnapshot(1), true);
        KitePermits same = busy();
        same.saveSnapshot(0);
        undoable("restoreSnapshot of the same", same, k -> k.restoreSnapshot(0), false);
    }

    private static KitePermits loaded(KitePermits k, String text) {
        k.truncate(0);
        Check.feed(k, text);
        return k;
    }

    private static void scriptIsOneChange() {
        Check.sentence("A script is one change as a whole, even if it has no commands.");
        KitePermits none = new KitePermits();
        Check.same("no commands", none.runScript(), 0);
        Check.same("one change", none.undo(), 0);
        Check.fails("no change", MISSING, () -> none.undo());
        KitePermits twenty = new KitePermits();
        String before = Picture.state(twenty);
        twenty.fund(0, 1);
        String funded = Picture.state(twenty);
        Check.same("20 commands", Check.script(twenty, "pay 0 1;".repeat(20)), 20);
        Check.same("one change", twenty.undo(), 1);
        Check.same("all are undone", Picture.state(twenty), funded);
        Check.same("the change before", twenty.undo(), 0);
        Check.same("is undone", Picture.state(twenty), before);
        KitePermits nine = new KitePermits();
        for (int i = 0; i < 9; i++) {
            nine.runScript();
        }
        for (int left = 7; left >= 0; left--) {
            Check.same("empty scripts", nine.undo(), left);
        }
        Check.fails("the ninth", MISSING, () -> nine.undo());
    }

    private static void eightChanges() {
        Check.sentence("At most the 8 latest changes can be undone.");
        for (int made = 0; made <= 20; made++) {
            KitePermits k = new KitePermits();
            for (int i = 0; i < made; i++) {
                k.fund(3, 1);
            }
            int most = Math.min(made, 8);
            for (int undone = 1; undone <= most; undone++) {
                Check.same("undo " + undone + " of " + made, k.undo(), most - undone);
                Check.same("the purse after undo " + undone + " of " + made, k.purse(3), made - undone);
            }
            Check.refused("undo after " + most + " of " + made, MISSING, k, x -> x.undo());
            Check.same("the purse stays", k.purse(3), made - most);
        }
        // The list of eight goes round: six changes more than eight, three undone, five made anew.
        KitePermits k = new KitePermits();
        for (int i = 0; i < 14; i++) {
            k.fund(3, 1);
        }
        for (int i = 0; i < 3; i++) {
            k.undo();
        }
        Check.same("eleven coins", k.purse(3), 11);
        for (int i = 0; i < 5; i++) {
            k.fund(3, 100);
        }
        int[] due = {411, 311, 211, 111, 11, 10, 9, 8};
        for (int i = 0; i < 8; i++) {
            Check.same("undo " + i, k.undo(), 7 - i);
            Check.same("coins", k.purse(3), due[i]);
        }
        Check.refused("no more", MISSING, k, x -> x.undo());
    }

    private static void notConcerned() {
        Check.sentence("Undo, snapshots and restoring concern the whole state except the input buffer, the output text,"
                + " the reported error and the snapshots themselves.");
        Check.Use[] ways = {k -> k.undo(), k -> k.restoreSnapshot(1)};
        for (Check.Use way : ways) {
            KitePermits k = busy();
            String before = Picture.state(k);
            String shown = Picture.of(k).substring(before.length());
            way.of(k);
            String after = Picture.state(k);
            Check.same("the state is another one", after.equals(before), false);
            Check.same("the error and the output stay", Picture.of(k).substring(after.length()), shown);
            Check.same("the input stays", k.truncate(8), 8);
            Check.same("its bytes stay", k.runScript(), 1);
            Check.same("two hours", k.hour(), 3);
        }
        // Saving and restoring take neither the output nor the input along.
        KitePermits k = busy();
        k.saveSnapshot(0);
        k.cancelPermits(1);
        k.writePermits();
        k.truncate(0);
        Check.feed(k, "pay 0 0");
        Check.badArgument("another error", () -> k.runScript());
        Check.feed(k, "pay 0 1;");
        k.restoreSnapshot(0);
        Check.same("the permits are back", k.permitCount(), 2);
        Check.same("the later output stays", k.outputByte(5), KitePermits.NONE);
        Check.same("the later error stays", k.errorPosition(), 6);
        Check.same("the later error stays", k.errorCode(), KitePermits.RANGE);
        Check.same("the later input stays", k.runScript(), 1);
        Check.same("one coin", k.purse(0), 49);
        // A snapshot that was saved after a change stays when that change is undone.
        KitePermits late = new KitePermits();
        late.fund(3, 5);
        late.saveSnapshot(0);
        late.fund(3, 5);
        late.saveSnapshot(1);
        late.undo();
        late.undo();
        Check.same("no coins", late.purse(3), 0);
        late.restoreSnapshot(0);
        Check.same("the snapshot of five coins", late.purse(3), 5);
        late.restoreSnapshot(1);
        Check.same("the snapshot of ten coins", late.purse(3), 10);
    }

    private static void refused(String what, Class<?> due, Check.Use use, String after) {
        KitePermits k = busy();
        Check.refused(what, due, k, use);
        Check.same("what comes after " + what, hidden(k), after);
    }

    private static void changesNothing() {
        Check.sentence("A method that throws an exception changes nothing, except where its description says so.");
        String after = hidden(busy());
        refused("truncate", ARGUMENT, k -> k.truncate(9), after);
        refused("truncate", ARGUMENT, k -> k.truncate(-1), after);
        refused("addKite of colour 2", INDEX, k -> k.addKite(0, 0, 1, 2, 0, 0), after);
        refused("addKite outside", ARGUMENT, k -> k.addKite(30, 0, 1, 0, 0, 0), after);
        refused("addKite with knots", ARGUMENT, k -> k.addKite(0, 0, 1, 0, 10, 0), after);
        refused("launch of no kite", INDEX, k -> k.launch(6), after);
        refused("launch of a flying kite", STATE, k -> k.launch(1), after);
        refused("launch of a tangled kite", STATE, k -> k.launch(2), after);
        refused("launch without wind", STATE, k -> k.launch(4), after);
        refused("land of no kite", INDEX, k -> k.land(-1), after);
        refused("land of a grounded kite", STATE, k -> k.land(0), after);
        refused("land of a tangled kite", STATE, k -> k.land(3), after);
        refused("passHours of 0", ARGUMENT, k -> k.passHours(0), after);
        refused("passHours of 49", ARGUMENT, k -> k.passHours(49), after);
        refused("permit of no kite", INDEX, k -> k.permit(6, 1, 1), after);
        refused("permit of no hour", ARGUMENT, k -> k.permit(0, -1, 1), after);
        refused("permit for 25 hours", ARGUMENT, k -> k.permit(0, 9, 25), after);
        refused("permit in the past", STATE, k -> k.permit(0, 0, 1), after);
        refused("permit twice", STATE, k -> k.permit(0, 3, 1), after);
        refused("permit beyond the quota", STATE, k -> k.permit(3, 2, 1), after);
        refused("permit without wind", STATE, k -> k.permit(4, 9, 1), after);
        refused("permit without coins", STATE, k -> k.permit(5, 9, 1), after);
        refused("cancelPermits of no kite", INDEX, k -> k.cancelPermits(6), after);
        refused("tieKnots of no kite", INDEX, k -> k.tieKnots(6, 1), after);
        refused("tieKnots of 10", ARGUMENT, k -> k.tieKnots(0, 10), after);
        refused("tieKnots of a flying kite", STATE, k -> k.tieKnots(1, 1), after);
        refused("tieKnots of a tangled kite", STATE, k -> k.tieKnots(2, 1), after);
        refused("repair of no kite", INDEX, k -> k.repair(6), after);
        refused("repair of a grounded kite", STATE, k -> k.repair(0), after);
        refused("repair of a flying kite", STATE, k -> k.repair(1), after);
        refused("repair without coins", STATE, k -> k.repair(3), after);
        refused("fund of no kite", INDEX, k -> k.fund(6, 1), after);
        refused("fund of no coins", ARGUMENT, k -> k.fund(0, 0), after);
        refused("fund of 1000 coins", ARGUMENT, k -> k.fund(0, 1000), after);
        refused("saveSnapshot in slot 2", ARGUMENT, k -> save(k, 2), after);
        refused("saveSnapshot in slot -1", ARGUMENT, k -> save(k, -1), after);
        refused("restoreSnapshot of slot 2", ARGUMENT, k -> k.restoreSnapshot(2), after);
        refused("restoreSnapshot of an empty slot", MISSING, k -> k.restoreSnapshot(0), after);
    }

    private static void refusedQuestions() {
        Check.sentence("A method that throws an exception changes nothing, except where its description says so.");
        String after = hidden(busy());
        Check.Use[] noSuch = {k -> k.windDirection(1, 0), k -> k.windForce(1, 0), k -> k.quota(2), k -> k.quotaUsed(2, 0), k -> k.anchorX(6),
            k -> k.anchorY(6), k -> k.stringLength(6), k -> k.colourOf(6), k -> k.knots(6), k -> k.purse(6), k -> k.stateOf(6), k -> k.zoneOf(6),
            k -> k.tangles(6), k -> k.reach(6, 0), k -> k.endX(6, 0), k -> k.endY(6, 0), k -> bit(k.canFly(6, 0)), k -> bit(k.doCross(0, 6, 0)),
            k -> bit(k.doCross(6, 0, 0)), k -> k.permitKite(2), k -> k.permitStart(2), k -> k.permitDuration(2), k -> bit(k.hasPermit(6, 0)),
            k -> k.whyNotPermit(6, 1, 1), k -> k.kiteInTheWay(6, 1, 1), k -> k.earliestStart(6, 1), k -> k.bestKnots(6, 0),
            k -> k.guiltyKite(1, 6), k -> k.guiltyKite(6, 1)};
        for (int i = 0; i < noSuch.length; i++) {
            refused("question " + i, INDEX, noSuch[i], after);
        }
        Check.Use[] bad = {k -> k.windDirection(0, -1), k -> k.windForce(0, 1000000), k -> k.quotaUsed(0, -1), k -> k.reach(0, -1),
            k -> k.endX(0, -1), k -> k.endY(0, -1), k -> bit(k.canFly(0, -1)), k -> bit(k.doCross(0, 1, -1)), k -> bit(k.doCross(0, 0, 0)),
            k -> bit(k.hasPermit(0, -1)), k -> k.whyNotPermit(0, -1, 1), k -> k.kiteInTheWay(0, 0, 0), k -> k.earliestStart(0, 25),
            k -> k.bestKnots(0, -1), k -> k.guiltyKite(1, 1), k -> k.verdictsIn(101)};
        for (int i = 0; i < bad.length; i++) {
            refused("argument " + i, ARGUMENT, bad[i], after);
        }
        refused("guiltyKite of a grounded kite", STATE, k -> k.guiltyKite(0, 1), after);
        // Questions that are answered change nothing either.
        Check.Use[] answered = {k -> k.verdictsIn(100), k -> k.earliestStart(0, 1), k -> k.bestKnots(0, 0), k -> k.whyNotPermit(0, 1, 1),
            k -> k.kiteInTheWay(0, 1, 24), k -> bit(k.doCross(0, 1, 0)), k -> k.outputByte(-1), k -> k.outputByte(999)};
        for (int i = 0; i < answered.length; i++) {
            KitePermits k = busy();
            String before = Picture.of(k);
            answered[i].of(k);
            Check.same("the office after question " + i, Picture.of(k), before);
            Check.same("what comes after question " + i, hidden(k), after);
        }
    }

    private static long save(KitePermits k, int slot) {
        k.saveSnapshot(slot);
        return 0;
    }

    private static long bit(boolean is) {
        return is ? 1 : 0;
    }

    /** A full buffer, a full field and an empty list of changes cannot be had in the busy office. */
    private static void fullAndEmpty() {
        Check.sentence("A method that throws an exception changes nothing, except where its description says so.");
        KitePermits input = new KitePermits();
        Check.feed(input, "hours 3;" + " ".repeat(473));
        Check.refused("append to 481 bytes", STATE, input, k -> k.append(0x68686868, 0, 0, 0, 0));
        Check.badArgument("truncate to 482", () -> input.truncate(482));
        Check.same("truncate to 481", input.truncate(481), 481);
        Check.same("the bytes stay", input.runScript(), 1);
        Check.same("three hours", input.hour(), 3);
        KitePermits kites = Texts.setup(Texts.FIELD + Texts.ZONE + Texts.COLOUR + Texts.KITE.repeat(16));
        Check.refused("a 17th kite", STATE, kites, k -> k.addKite(0, 0, 1, 0, 0, 9));
        Check.same("only the setup is a change", kites.undo(), 0);
        Check.refused("undo of nothing", MISSING, kites, k -> k.undo());
        kites.fund(0, 1);
        Check.same("one change after it", kites.undo(), 0);
    }

    private static void wrongTexts() {
        Check.sentence("Throws `IllegalArgumentException` if the text has an error; then only the buffer and the reported error change");
        for (int way = 0; way < 2; way++) {
            boolean isSetup = way == 0;
            // Both texts are good up to their last byte.
            String text = isSetup ? "field 50 50 5 5;zone 1 1;zone 1 1;colour 3;kite 1 1 1 0 1 1;kite 2 2 2 0 2 2" : "hours 1;land 1;cancel 0;pay 0 9";
            KitePermits k = loaded(busy(), text);
            String state = Picture.state(k);
            Check.badArgument("the text", () -> read(k, isSetup));
            Check.same("the state", Picture.state(k), state);
            Check.same("errorCode", k.errorCode(), KitePermits.SYNTAX);
            Check.same("errorPosition", k.errorPosition(), text.length());
            Check.badArgument("the buffer is empty", () -> k.truncate(1));
            Check.same("the output", k.outputByte(4), '2');
            // With the input and the report as before, all the rest is as before.
            Check.feed(k, "hours 49;");
            Check.badArgument("the script with an error", () -> k.runScript());
            Check.feed(k, "hours 2;");
            Check.same("what comes after a text with an error", hidden(k), hidden(busy()));
        }
    }

    private static int read(KitePermits k, boolean isSetup) {
        return isSetup ? k.loadSetup() : k.runScript();
    }

    // ---- exceptions

    private static void strangeIndexes() {
        Check.sentence("An IndexOutOfBoundsException is thrown for a zone, colour, kite or permit that does not exist.");
        KitePermits k = busy();
        Check.bounds("windForce of a zone", 0, 0, INDEX, () -> k, (x, zone) -> x.windForce(zone, 0));
        Check.bounds("quota of a colour", 0, 1, INDEX, () -> k, (x, colour) -> x.quota(colour));
        Check.bounds("purse of a kite", 0, 5, INDEX, () -> k, (x, kite) -> x.purse(kite));
        Check.bounds("permitStart of a permit", 0, 1, INDEX, () -> k, (x, permit) -> x.permitStart(permit));
        k.undo();
        Check.bounds("permitStart of the permit that is left", 0, 0, INDEX, () -> k, (x, permit) -> x.permitStart(permit));
        loaded(k, Texts.FIELD + Texts.ZONE + Texts.COLOUR + Texts.KITE).loadSetup();
        Check.bounds("purse of the only kite", 0, 0, INDEX, () -> k, (x, kite) -> x.purse(kite));
        Check.refused("permit 0 of none", INDEX, k, x -> x.permitStart(0));
        Check.refused("colour 1 of one", INDEX, k, x -> x.quota(1));
    }

    private static void strangeArguments() {
        Check.sentence("An IllegalArgumentException is thrown for any other argument outside its range, and if two kites must be different but are not.");
        KitePermits k = busy();
        for (int kite : new int[] {0, 5}) {
            Check.refused("doCross of the same", ARGUMENT, k, x -> bit(x.doCross(kite, kite, 0)));
            Check.refused("guiltyKite of the same", ARGUMENT, k, x -> x.guiltyKite(kite, kite));
        }
        Check.same("doCross of two others", Check.outcome(() -> bit(k.doCross(5, 0, 0))), "0");
        Check.bounds("passHours", 1, 48, ARGUMENT, StateBoundsTest::busy, (x, count) -> x.passHours(count));
        Check.bounds("truncate", 0, 8, ARGUMENT, StateBoundsTest::busy, (x, length) -> x.truncate(length));
        Check.bounds("fund", 1, 999, ARGUMENT, StateBoundsTest::busy, (x, coins) -> x.fund(0, coins));
        Check.bounds("verdictsIn", 0, 100, ARGUMENT, StateBoundsTest::busy, (x, hours) -> x.verdictsIn(hours));
        Check.bounds("saveSnapshot", 0, 1, ARGUMENT, StateBoundsTest::busy, StateBoundsTest::save);
    }

    private static void firstListed() {
        Check.sentence("If several exceptions apply to a call, the one that is listed first in the description of the method is thrown.");
        KitePermits full = Texts.setup(Texts.FIELD + Texts.ZONE + Texts.COLOUR + Texts.KITE.repeat(16));
        Check.refused("a 17th kite of a strange colour outside", INDEX, full, x -> x.addKite(10, 10, 61, 1, 10, 1000));
        Check.refused("a 17th kite of a strange colour", INDEX, full, x -> x.addKite(0, 0, 1, 1, 0, 0));
        int[][] bad = {{10, 0, 1, 0, 0}, {0, 10, 1, 0, 0}, {0, 0, 61, 0, 0}, {0, 0, 0, 0, 0}, {0, 0, 1, 10, 0}, {0, 0, 1, 0, 1000}};
        for (int[] b : bad) {
            Check.refused("a 17th kite with a strange number", ARGUMENT, full, x -> x.addKite(b[0], b[1], b[2], 0, b[3], b[4]));
            Check.refused("the same of a strange colour", INDEX, full, x -> x.addKite(b[0], b[1], b[2], -1, b[3], b[4]));
        }
        Check.refused("a 17th kite", STATE, full, x -> x.addKite(0, 0, 1, 0, 0, 0));
        KitePermits k = busy();
        for (int kite : new int[] {-1, 6, MIN, MAX}) {
            Check.refused("permit", INDEX, k, x -> x.permit(kite, -1, 0));
            Check.refused("tieKnots", INDEX, k, x -> x.tieKnots(kite, 10));
            Check.refused("fund", INDEX, k, x -> x.fund(kite, 0));
            Check.refused("reach", INDEX, k, x -> x.reach(kite, -1));
            Check.refused("endX", INDEX, k, x -> x.endX(kite, -1));
            Check.refused("endY", INDEX, k, x -> x.endY(kite, -1));
            Check.refused("canFly", INDEX, k, x -> bit(x.canFly(kite, -1)));
            Check.refused("hasPermit", INDEX, k, x -> bit(x.hasPermit(kite, -1)));
            Check.refused("whyNotPermit", INDEX, k, x -> x.whyNotPermit(kite, -1, 0));
            Check.refused("kiteInTheWay", INDEX, k, x -> x.kiteInTheWay(kite, -1, 0));
            Check.refused("earliestStart", INDEX, k, x -> x.earliestStart(kite, 0));
            Check.refused("bestKnots", INDEX, k, x -> x.bestKnots(kite, -1));
            Check.refused("windDirection", INDEX, k, x -> x.windDirection(kite, -1));
            Check.refused("windForce", INDEX, k, x -> x.windForce(kite, -1));
            Check.refused("quotaUsed", INDEX, k, x -> x.quotaUsed(kite, -1));
            Check.refused("doCross, the first", INDEX, k, x -> bit(x.doCross(kite, 0, -1)));
            Check.refused("doCross, the second", INDEX, k, x -> bit(x.doCross(0, kite, -1)));
            Check.refused("doCross, both the same", INDEX, k, x -> bit(x.doCross(kite, kite, -1)));
            Check.refused("guiltyKite, the first", INDEX, k, x -> x.guiltyKite(kite, 0));
            Check.refused("guiltyKite, the second", INDEX, k, x -> x.guiltyKite(0, kite));
            Check.refused("guiltyKite, both the same", INDEX, k, x -> x.guiltyKite(kite, kite));
        }
        Check.refused("a permit in the past for no hours", ARGUMENT, k, x -> x.permit(0, 0, 0));
        Check.refused("a permit in the past for 25 hours", ARGUMENT, k, x -> x.permit(0, 0, 25));
        Check.refused("a permit of no hour beyond the quota", ARGUMENT, k, x -> x.permit(3, 1000000, 1));
        Check.refused("10 knots of a flying kite", ARGUMENT, k, x -> x.tieKnots(1, 10));
        Check.refused("-1 knots of a tangled kite", ARGUMENT, k, x -> x.tieKnots(2, -1));
        Check.refused("guiltyKite of a grounded kite and itself", ARGUMENT, k, x -> x.guiltyKite(0, 0));
        Check.refused("guiltyKite of a grounded kite", STATE, k, x -> x.guiltyKite(0, 1));
        Check.refused("guiltyKite of a tangled kite", STATE, k, x -> x.guiltyKite(1, 2));
        for (int slot : new int[] {-1, 2, MIN, MAX}) {
            Check.refused("restoreSnapshot of no slot", ARGUMENT, new KitePermits(), x -> x.restoreSnapshot(slot));
        }
    }

    private static void hours() {
        Check.sentence("A parameter hour is 0 to 999999.");
        KitePermits k = busy();
        Check.bounds("windDirection", 0, 999999, ARGUMENT, () -> k, (x, hour) -> x.windDirection(0, hour));
        Check.bounds("windForce", 0, 999999, ARGUMENT, () -> k, (x, hour) -> x.windForce(0, hour));
        Check.bounds("quotaUsed", 0, 999999, ARGUMENT, () -> k, (x, hour) -> x.quotaUsed(0, hour));
        Check.bounds("reach", 0, 999999, ARGUMENT, () -> k, (x, hour) -> x.reach(0, hour));
        Check.bounds("endX", 0, 999999, ARGUMENT, () -> k, (x, hour) -> x.endX(0, hour));
        Check.bounds("endY", 0, 999999, ARGUMENT, () -> k, (x, hour) -> x.endY(0, hour));
        Check.bounds("canFly", 0, 999999, ARGUMENT, () -> k, (x, hour) -> bit(x.canFly(0, hour)));
        Check.bounds("doCross", 0, 999999, ARGUMENT, () -> k, (x, hour) -> bit(x.doCross(0, 1, hour)));
        Check.bounds("hasPermit", 0, 999999, ARGUMENT, () -> k, (x, hour) -> bit(x.hasPermit(0, hour)));
        Check.bounds("bestKnots", 0, 999999, ARGUMENT, () -> k, (x, hour) -> x.bestKnots(0, hour));
    }

    // ---- the number of calls

    private static void manyCalls() {
        Check.sentence("An object is used for at most 512 calls after it has been made; what later calls answer is free.");
        KitePermits hours = new KitePermits();
        for (int call = 1; call <= 510; call++) {
            Check.same("passHours, call " + call, hours.passHours(48), 0);
        }
        Check.same("hour, call 511", hours.hour(), 510 * 48);
        Check.same("undo, call 512", hours.undo(), 7);
        KitePermits rows = new KitePermits();
        for (int call = 1; call <= 510; call += 2) {
            Check.same("append, call " + call, rows.append(0x20202020, 0x20202020, 0x20202020, 0x20202020, 0x20202020), 20);
            Check.same("runScript, call " + (call + 1), rows.runScript(), 0);
        }
        Check.same("undo, call 511", rows.undo(), 7);
        KitePermits pairs = tangledPair();
        for (int i = 0; i < 100; i++) {
            pairs.repair(0);
            pairs.repair(1);
            pairs.launch(0);
            pairs.launch(1);
            Check.same("verdict " + i, pairs.passHours(1), 1);
        }
        Check.same("all verdicts", pairs.tangles(0), 101);
        KitePermits coins = new KitePermits();
        for (int call = 1; call <= 510; call++) {
            coins.fund(0, 999);
        }
        Check.same("a full purse", coins.purse(0), 99999);
        Check.same("coinError", coins.coinError(), 0);
    }

    public static void main(String[] args) {
        busyItself();
        everyChange();
        scriptIsOneChange();
        eightChanges();
        notConcerned();
        changesNothing();
        refusedQuestions();
        fullAndEmpty();
        wrongTexts();
        strangeIndexes();
        strangeArguments();
        firstListed();
        hours();
        manyCalls();
        Check.finish("StateBoundsTest");
    }
}
