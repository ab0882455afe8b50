import java.util.NoSuchElementException;

/** Promises 17 to 19: undo and snapshots. */
final class UndoTest {
    private static final int MIN = Integer.MIN_VALUE;
    private static final int MAX = Integer.MAX_VALUE;

    private UndoTest() {
    }

    private static void noUndo(KitePermits k) {
        Check.fails("undo", NoSuchElementException.class, () -> k.undo());
    }

    /** Promise 17: at most the 8 latest changes. */
    private static void eightChanges() {
        KitePermits k = new KitePermits();
        noUndo(k);
        for (int i = 0; i < 10; i++) {
            k.fund(0, 1);
        }
        for (int left = 7; left >= 0; left--) {
            Check.same("undo", k.undo(), left);
            Check.same("purse", k.purse(0), 52 + left);
        }
        noUndo(k);
        Check.same("two changes stay", k.purse(0), 52);
        for (int i = 0; i < 5; i++) {
            k.fund(0, 1);
        }
        Check.same("undo", k.undo(), 4);
        Check.same("undo", k.undo(), 3);
        k.fund(0, 100);
        Check.same("undo of the newest", k.undo(), 3);
        Check.same("purse", k.purse(0), 55);
        Check.same("undo of an older one", k.undo(), 2);
        Check.same("purse", k.purse(0), 54);
        for (int i = 0; i < 8; i++) {
            k.passHours(1);
        }
        Check.same("undo after eight more", k.undo(), 7);
    }

    /** Promise 17: each of the changes can be undone, and takes back all that it did. */
    private static void everyChange() {
        KitePermits k = new KitePermits();
        k.addKite(1, 1, 1, 0, 0, 9);
        k.undo();
        Check.same("addKite", k.kiteCount(), 4);
        Check.same("its coins", k.coinError(), 0);
        k.launch(0);
        k.undo();
        Check.same("launch", k.stateOf(0), 0);
        k.launch(0);
        k.land(0);
        Check.same("land", k.undo(), 1);
        Check.same("it flies", k.stateOf(0), 1);
        k.permit(0, 0, 1);
        k.launch(3);
        k.fund(3, 5);
        k.passHours(2);
        Check.same("the fine", k.purse(0), 53);
        Check.same("passHours", k.undo(), 4);
        Check.same("hour", k.hour(), 0);
        Check.same("permits", Check.output(k), "0:0+1");
        Check.same("states", k.stateOf(3), 1);
        Check.same("tangles", k.tangles(3), 0);
        Check.same("the fine is back", k.purse(3), 5);
        k.undo();
        k.undo();
        k.undo();
        Check.same("permit", k.permitCount(), 0);
        Check.same("its price", k.officeCoins(), 0);
        Check.same("purse", k.purse(0), 50);
        k.permit(1, 4, 1);
        k.cancelPermits(1);
        k.undo();
        Check.same("cancelPermits", Check.output(k), "1:4+1");
        k.tieKnots(1, 5);
        k.undo();
        Check.same("tieKnots", k.knots(1), 1);
        Check.same("its permits", Check.output(k), "1:4+1");
        k.launch(3);
        k.passHours(2);
        Check.same("tangled", k.stateOf(3), 2);
        k.repair(3);
        k.undo();
        Check.same("repair", k.stateOf(3), 2);
        Check.same("the hour stays", k.hour(), 2);
        k.fund(3, 7);
        k.undo();
        Check.same("fund", k.purse(3), 0);
        Check.same("coinError", k.coinError(), 0);
    }

    /** Promises 17 and 19: the permits come back with all their numbers, in their order. */
    private static void permitsComeBack() {
        KitePermits k = new KitePermits();
        k.permit(0, 1, 1);
        k.permit(1, 3, 2);
        k.permit(2, 5, 1);
        k.saveSnapshot(0);
        k.cancelPermits(0);
        k.permit(0, 7, 3);
        Check.same("three permits", Check.output(k), "1:3+2 2:5+1 0:7+3");
        k.undo();
        Check.same("without the last", Check.output(k), "1:3+2 2:5+1");
        k.undo();
        Check.same("as they were granted", Check.output(k), "0:1+1 1:3+2 2:5+1");
        k.passHours(10);
        k.permit(1, 20, 4);
        k.restoreSnapshot(0);
        Check.same("as in the snapshot", Check.output(k), "0:1+1 1:3+2 2:5+1");
        k.undo();
        Check.same("as before the restoring", Check.output(k), "1:20+4");
    }

    /** Promise 17: what changes nothing can be undone as well, and what throws cannot. */
    private static void emptyChanges() {
        KitePermits k = new KitePermits();
        k.cancelPermits(0);
        k.tieKnots(0, 0);
        k.runScript();
        Check.same("three changes", k.undo(), 2);
        Check.badState("land", () -> k.land(0));
        Check.badState("repair", () -> k.repair(0));
        Check.badState("permit", () -> k.permit(3, 0, 1));
        Check.noKite("launch", () -> k.launch(9));
        Check.badArgument("passHours", () -> k.passHours(0));
        Check.badArgument("loadSetup", () -> k.loadSetup());
        Check.badArgument("fund", () -> k.fund(0, 0));
        Check.badArgument("addKite", () -> k.addKite(-1, 0, 1, 0, 0, 0));
        Check.badArgument("tieKnots", () -> k.tieKnots(0, 10));
        Check.noKite("cancelPermits", () -> k.cancelPermits(9));
        Check.fails("restoreSnapshot", NoSuchElementException.class, () -> k.restoreSnapshot(0));
        k.saveSnapshot(0);
        Check.same("none of these is a change", k.undo(), 1);
        Check.same("nor is undo", k.undo(), 0);
        noUndo(k);
    }

    /** Promise 17: the order of the launches belongs to the state. */
    private static void launchOrder() {
        KitePermits k = new KitePermits();
        k.launch(0);
        k.launch(3);
        k.land(0);
        k.launch(0);
        Check.same("0 was launched later", k.guiltyKite(0, 3), 0);
        k.undo();
        k.undo();
        Check.same("3 was launched later", k.guiltyKite(0, 3), 3);
        k.undo();
        k.launch(3);
        Check.same("3 was launched later", k.guiltyKite(0, 3), 3);
    }

    /** Input, output and the report are not undone. */
    private static void untouched() {
        KitePermits k = new KitePermits();
        k.permit(0, 0, 1);
        k.writePermits();
        k.append(0x686f7572, 0x73203120, 0x3b202020, 0x20202020, 0x20202020);
        k.saveSnapshot(1);
        k.undo();
        Check.same("the output stays", k.outputByte(0), '0');
        Check.same("the input stays", k.truncate(20), 20);
        k.restoreSnapshot(1);
        Check.same("the output stays", k.outputByte(0), '0');
        Check.same("the input stays", k.runScript(), 1);
        Check.same("hour", k.hour(), 1);
    }

    /** Promises 18 and 19. */
    private static void snapshots() {
        KitePermits k = new KitePermits();
        for (int slot : new int[] {-1, 2, MIN, MAX}) {
            Check.badArgument("save in slot " + slot, () -> k.saveSnapshot(slot));
            Check.badArgument("restore slot " + slot, () -> k.restoreSnapshot(slot));
        }
        Check.fails("slot 0", NoSuchElementException.class, () -> k.restoreSnapshot(0));
        k.permit(1, 7, 2);
        k.launch(2);
        k.saveSnapshot(0);
        Check.fails("slot 1 is still empty", NoSuchElementException.class, () -> k.restoreSnapshot(1));
        k.passHours(3);
        k.fund(1, 50);
        k.saveSnapshot(1);
        k.cancelPermits(1);
        Check.same("restore 0", k.restoreSnapshot(0), 0);
        Check.same("permits", Check.output(k), "1:7+2");
        Check.same("purse", k.purse(1), 36);
        Check.same("state", k.stateOf(2), 1);
        k.land(2);
        Check.same("restore 1", k.restoreSnapshot(1), 3);
        Check.same("purse", k.purse(1), 86);
        Check.same("undo the restoring", k.undo(), 7);
        Check.same("hour", k.hour(), 0);
        Check.same("landed", k.stateOf(2), 0);
        Check.same("restore 0 again", k.restoreSnapshot(0), 0);
        Check.same("the snapshot was not landed", k.stateOf(2), 1);
        Check.same("restore 1 again", k.restoreSnapshot(1), 3);
        k.saveSnapshot(0);
        k.passHours(1);
        Check.same("the newer snapshot counts", k.restoreSnapshot(0), 3);
        Check.same("coinError", k.coinError(), 0);
    }

    public static void main(String[] args) {
        eightChanges();
        everyChange();
        permitsComeBack();
        emptyChanges();
        launchOrder();
        untouched();
        snapshots();
        Check.finish("UndoTest");
    }
}
