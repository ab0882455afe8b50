/** Promises 8 to 16: the changes of kites and permits. */
final class ChangesTest {
    private static final int MIN = Integer.MIN_VALUE;
    private static final int MAX = Integer.MAX_VALUE;

    private ChangesTest() {
    }

    /** Promise 8. */
    private static void addKite() {
        KitePermits k = new KitePermits();
        Check.same("addKite", k.addKite(39, 29, 60, 1, 9, 999), 4);
        int[] got = {k.kiteCount(), k.anchorX(4), k.anchorY(4), k.stringLength(4), k.colourOf(4), k.knots(4), k.purse(4),
            k.stateOf(4), k.zoneOf(4), k.tangles(4), k.coinError()};
        int[] due = {5, 39, 29, 60, 1, 9, 999, 0, 1, 0, 0};
        for (int i = 0; i < due.length; i++) {
            Check.same("number " + i + " of the new kite", got[i], due[i]);
        }
        Check.same("the smallest one", k.addKite(0, 0, 1, 0, 0, 0), 5);
        for (int colour : new int[] {-1, 2, MIN, MAX}) {
            Check.noKite("colour " + colour, () -> k.addKite(0, 0, 1, colour, 0, 0));
            Check.noKite("and all others bad too", () -> k.addKite(-1, -1, 0, colour, 10, -1));
        }
        int[][] bad = {{-1, 0, 1, 0, 0}, {40, 0, 1, 0, 0}, {0, -1, 1, 0, 0}, {0, 30, 1, 0, 0}, {30, 39, 1, 0, 0}, {0, 0, 0, 0, 0},
            {0, 0, 61, 0, 0}, {0, 0, 1, -1, 0}, {0, 0, 1, 10, 0}, {0, 0, 1, 0, -1}, {0, 0, 1, 0, 1000}, {MIN, 0, 1, 0, 0},
            {0, MAX, 1, 0, 0}, {0, 0, MIN, 0, 0}, {0, 0, 1, MAX, 0}, {0, 0, 1, 0, MIN}};
        for (int[] b : bad) {
            Check.badArgument("addKite", () -> k.addKite(b[0], b[1], b[2], 0, b[3], b[4]));
        }
        Check.same("no kite more", k.kiteCount(), 6);
        for (int i = 6; i < 16; i++) {
            Check.same("addKite", k.addKite(0, 0, 1, 0, 0, 0), i);
        }
        Check.badState("a 17th kite", () -> k.addKite(0, 0, 1, 0, 0, 0));
        Check.badArgument("a 17th kite outside", () -> k.addKite(40, 0, 1, 0, 0, 0));
        Check.noKite("a 17th kite of a strange colour", () -> k.addKite(0, 0, 1, 2, 0, 0));
        Check.same("16 kites", k.kiteCount(), 16);
        Check.same("the last can be launched", k.launch(0), 6);
    }

    /** Promise 9. */
    private static void launch() {
        KitePermits k = new KitePermits();
        Check.noKite("kite -1", () -> k.launch(-1));
        Check.noKite("kite 4", () -> k.launch(4));
        Check.noKite("kite MIN", () -> k.launch(MIN));
        Check.same("launch(1)", k.launch(1), 4);
        Check.same("it flies", k.stateOf(1), 1);
        Check.badState("it flies already", () -> k.launch(1));
        k.passHours(1);
        Check.same("the reach of the present hour", k.launch(0), 10);
        k.addKite(39, 0, 60, 0, 0, 0);
        Check.badState("its end is outside", () -> k.launch(4));
        Check.same("it stays grounded", k.stateOf(4), 0);
        k.addKite(39, 0, 1, 0, 0, 0);
        Check.badState("its reach is 0", () -> k.launch(5));
        KitePermits tangled = tangled();
        Check.badState("a tangled kite", () -> tangled.launch(0));
    }

    /** Kites 0 and 3 are tangled in hour 2; kite 3 was launched later, and its purse is empty. */
    private static KitePermits tangled() {
        KitePermits k = new KitePermits();
        k.launch(0);
        k.launch(3);
        Check.same("verdicts", k.passHours(2), 1);
        return k;
    }

    /** Promise 10. */
    private static void land() {
        KitePermits k = new KitePermits();
        Check.noKite("kite -1", () -> k.land(-1));
        Check.noKite("kite 4", () -> k.land(4));
        Check.badState("a grounded kite", () -> k.land(0));
        k.launch(0);
        k.launch(1);
        k.launch(2);
        Check.same("two fly on", k.land(1), 2);
        Check.same("it is grounded", k.stateOf(1), 0);
        Check.same("one flies on", k.land(0), 1);
        Check.same("none flies", k.land(2), 0);
        Check.badState("it has landed", () -> k.land(2));
        KitePermits tangled = tangled();
        Check.badState("a tangled kite", () -> tangled.land(0));
    }

    /** Promise 11, steps 1 and 2. */
    private static void hoursPass() {
        KitePermits k = new KitePermits();
        for (int count : new int[] {0, -1, 49, MIN, MAX}) {
            Check.badArgument("passHours " + count, () -> k.passHours(count));
        }
        Check.same("48 hours", k.passHours(48), 0);
        Check.same("hour", k.hour(), 48);
        k.permit(0, 48, 1);
        k.permit(1, 48, 3);
        k.permit(0, 50, 1);
        k.passHours(1);
        Check.same("the ended permit is gone", Check.output(k), "1:48+3 0:50+1");
        k.passHours(1);
        Check.same("both cover the present hour", k.permitCount(), 2);
        k.passHours(1);
        Check.same("all have ended", k.permitCount(), 0);
        // In even hours the kite flies upwards, in odd ones there is no wind.
        KitePermits calm = Check.office("field 20 20 0 5;zone 0 5 0 0;colour 1;kite 3 3 5 0 0 0;");
        calm.launch(0);
        Check.same("flying", calm.stateOf(0), 1);
        calm.passHours(1);
        Check.same("grounded", calm.stateOf(0), 0);
        calm.passHours(1);
        Check.same("and not launched again", calm.stateOf(0), 0);
        KitePermits edge = Check.office("field 20 20 0 5;zone 0 5 6 5;colour 1;kite 4 3 5 0 0 0;kite 5 15 4 0 0 0;");
        edge.launch(0);
        edge.launch(1);
        edge.passHours(1);
        Check.same("blown out of the field", edge.stateOf(0), 0);
        Check.same("just within the field", edge.stateOf(1), 1);
    }

    /** Promise 11, steps 3 and 4. */
    private static void verdicts() {
        KitePermits k = tangled();
        Check.same("tangled", k.stateOf(0), 2);
        Check.same("tangled", k.stateOf(3), 2);
        Check.same("tangles", k.tangles(0), 1);
        Check.same("tangles", k.tangles(3), 1);
        Check.same("an empty purse pays nothing", k.purse(0), 50);
        Check.same("hours later, nothing more", k.passHours(40), 0);
        // Three kites whose strings lie upon one another; the fine is 10.
        String three = "field 20 20 0 10;zone 2 5;colour 9;kite 0 5 9 0 0 25;kite 1 5 9 0 0 13;kite 2 5 9 0 0 4;";
        KitePermits later = Check.office(three);
        later.launch(2);
        later.launch(1);
        later.launch(0);
        Check.same("three verdicts", later.passHours(1), 3);
        // 0 pays 10 to 1, 0 pays 10 to 2, 1 pays 10 to 2.
        Check.same("purse(0)", later.purse(0), 5);
        Check.same("purse(1)", later.purse(1), 13);
        Check.same("purse(2)", later.purse(2), 24);
        Check.same("tangles(0)", later.tangles(0), 2);
        Check.same("coinError", later.coinError(), 0);
        // The order of the pairs decides: 2 pays its 4 to 0, and has nothing left for 1.
        KitePermits order = Check.office(three);
        order.launch(0);
        order.launch(1);
        order.launch(2);
        Check.same("three verdicts", order.passHours(1), 3);
        Check.same("purse(0)", order.purse(0), 25 + 10 + 4);
        Check.same("purse(1)", order.purse(1), 13 - 10);
        Check.same("purse(2)", order.purse(2), 0);
        Check.same("purses do not go to the office", order.officeCoins(), 0);
    }

    /** Promise 11: a permit for the present hour decides before the order of the launches. */
    private static void permittedKites() {
        String two = "field 20 20 0 10;zone 2 5;colour 9;kite 0 5 9 0 0 25;kite 1 5 9 0 0 25;";
        KitePermits k = Check.office(two);
        k.permit(1, 1, 1);
        k.launch(0);
        k.launch(1);
        k.passHours(1);
        Check.same("the kite without a permit is guilty", k.purse(0), 15);
        Check.same("the other one gets the fine", k.purse(1), 35);
        KitePermits first = Check.office(two);
        first.permit(0, 1, 1);
        first.launch(1);
        first.launch(0);
        first.passHours(1);
        Check.same("permitted, though launched later", first.purse(0), 35);
        KitePermits over = Check.office(two);
        over.permit(1, 0, 1);
        over.permit(1, 2, 1);
        over.launch(0);
        over.launch(1);
        over.passHours(1);
        Check.same("no permit in hour 1", over.purse(1), 15);
        KitePermits again = Check.office(two);
        again.launch(1);
        again.launch(0);
        again.land(1);
        again.launch(1);
        again.passHours(1);
        Check.same("the latest launch counts", again.purse(1), 15);
    }

    /** Promise 12: the reasons themselves are tested with promise 51. */
    private static void permit() {
        KitePermits k = new KitePermits();
        Check.same("permit", k.permit(0, 0, 2), 1);
        Check.same("the price is paid", k.purse(0), 46);
        Check.same("to the office", k.officeCoins(), 4);
        Check.same("a second one", k.permit(1, 3, 1), 2);
        Check.same("the list", Check.output(k), "0:0+2 1:3+1");
        Check.noKite("kite 4", () -> k.permit(4, 0, 1));
        Check.noKite("kite -1 and all bad", () -> k.permit(-1, -1, 0));
        int[][] bad = {{-1, 1}, {1000000, 1}, {0, 0}, {0, 25}, {0, -1}, {MIN, 1}, {MAX, 1}, {0, MIN}, {0, MAX}};
        for (int[] b : bad) {
            Check.badArgument("permit(0, " + b[0] + ", " + b[1] + ")", () -> k.permit(0, b[0], b[1]));
        }
        Check.badState("refused", () -> k.permit(0, 1, 1));
        Check.badState("too dear", () -> k.permit(3, 5, 1));
        Check.same("nothing was paid", k.officeCoins(), 6);
        Check.same("nothing was granted", k.permitCount(), 2);
        Check.same("the last hours", k.permit(0, 999999, 23), 3);
        Check.same("all its coins", k.purse(0), 0);
        k.launch(1);
        Check.same("a flying kite", k.permit(1, 10, 1), 4);
        KitePermits tangled = tangled();
        Check.same("a tangled kite", tangled.permit(0, 2, 1), 1);
    }

    /** Promise 13. */
    private static void cancel() {
        KitePermits k = new KitePermits();
        Check.noKite("kite -1", () -> k.cancelPermits(-1));
        Check.noKite("kite 4", () -> k.cancelPermits(4));
        Check.same("none", k.cancelPermits(0), 0);
        k.permit(0, 5, 1);
        k.permit(1, 5, 1);
        k.permit(0, 2, 2);
        k.permit(2, 0, 1);
        Check.same("two", k.cancelPermits(0), 2);
        Check.same("the others stay in their order", Check.output(k), "1:5+1 2:0+1");
        Check.same("nothing is paid back", k.purse(0), 44);
        Check.same("the office keeps it", k.officeCoins(), 10);
        Check.same("coinError", k.coinError(), 0);
    }

    /** Promise 14. */
    private static void tie() {
        KitePermits k = new KitePermits();
        k.permit(1, 0, 1);
        k.permit(0, 0, 1);
        k.permit(1, 5, 1);
        Check.noKite("kite 4", () -> k.tieKnots(4, 0));
        Check.noKite("kite -1 and bad knots", () -> k.tieKnots(-1, 10));
        Check.badArgument("knots -1", () -> k.tieKnots(1, -1));
        Check.badArgument("knots 10", () -> k.tieKnots(1, 10));
        Check.same("no permit was cancelled", k.permitCount(), 3);
        Check.same("the knots before", k.tieKnots(1, 1), 1);
        Check.same("its permits are cancelled", Check.output(k), "0:0+1");
        Check.same("the knots before", k.tieKnots(1, 9), 1);
        Check.same("knots", k.knots(1), 9);
        Check.same("the knots before", k.tieKnots(1, 0), 9);
        k.launch(1);
        Check.badState("a flying kite", () -> k.tieKnots(1, 2));
        Check.badArgument("a flying kite and bad knots", () -> k.tieKnots(1, 10));
        KitePermits tangled = tangled();
        Check.badState("a tangled kite", () -> tangled.tieKnots(0, 2));
    }

    /** Promise 15. */
    private static void repair() {
        KitePermits k = tangled();
        Check.noKite("kite -1", () -> k.repair(-1));
        Check.noKite("kite 4", () -> k.repair(4));
        Check.badState("a grounded kite", () -> k.repair(1));
        k.launch(1);
        Check.badState("a flying kite", () -> k.repair(1));
        Check.same("no knots, no price", k.repair(0), 0);
        Check.same("grounded", k.stateOf(0), 0);
        Check.badState("repaired already", () -> k.repair(0));
        // Both have 3 knots, so 6 coins are the price; the fine is 0.
        KitePermits two = Check.office("field 20 20 0 0;zone 2 9;colour 9;kite 0 5 9 0 3 5;kite 1 5 9 0 3 6;");
        two.launch(0);
        two.launch(1);
        two.passHours(1);
        Check.badState("a coin too little", () -> two.repair(0));
        Check.same("it stays tangled", two.stateOf(0), 2);
        Check.same("just enough", two.repair(1), 6);
        Check.same("the purse is empty", two.purse(1), 0);
        Check.same("the office has it", two.officeCoins(), 6);
        Check.same("coinError", two.coinError(), 0);
        Check.same("it can fly again", two.launch(1), 9);
        two.fund(0, 1);
        Check.same("a coin more", two.repair(0), 6);
        Check.same("tangles stay", two.tangles(0), 1);
    }

    /** Promise 16. */
    private static void fund() {
        KitePermits k = new KitePermits();
        Check.noKite("kite 4", () -> k.fund(4, 1));
        Check.noKite("kite -1 and bad coins", () -> k.fund(-1, 0));
        for (int coins : new int[] {0, -1, 1000, MIN, MAX}) {
            Check.badArgument("coins " + coins, () -> k.fund(0, coins));
        }
        Check.same("fund", k.fund(0, 1), 51);
        Check.same("fund", k.fund(0, 999), 1050);
        KitePermits full = Check.office("field 20 20 0 50;zone 2 5;colour 9;kite 0 5 9 0 0 0;kite 1 5 9 0 0 0;");
        for (int i = 1; i <= 100; i++) {
            Check.same("fund", full.fund(0, 999), 999 * i);
        }
        Check.same("98 more", full.fund(0, 98), 99998);
        Check.same("only one of two", full.fund(0, 2), 99999);
        Check.same("none of one", full.fund(0, 1), 99999);
        Check.same("only those put in are counted", full.coinError(), 0);
        full.fund(1, 60);
        full.launch(0);
        full.launch(1);
        full.passHours(1);
        Check.same("a fine goes beyond", full.purse(0), 100049);
        Check.same("none of 999", full.fund(0, 999), 100049);
        Check.same("coinError", full.coinError(), 0);
    }

    public static void main(String[] args) {
        addKite();
        launch();
        land();
        hoursPass();
        verdicts();
        permittedKites();
        permit();
        cancel();
        tie();
        repair();
        fund();
        Check.finish("ChangesTest");
    }
}
