/** The section "Terms", from the refusal of permits to the repairs: each sentence that names a boundary case. */
final class RulesBoundsTest {
    private static final Class<?> STATE = IllegalStateException.class;

    private RulesBoundsTest() {
    }

    /** The reason is told, and the permit is granted or refused by it. */
    private static void reason(String what, KitePermits k, int kite, int start, int duration, int due) {
        Check.same("whyNotPermit, " + what, k.whyNotPermit(kite, start, duration), due);
        if (due != 0) {
            Check.refused("permit, " + what, STATE, k, x -> x.permit(kite, start, duration));
            return;
        }
        String before = Picture.of(k);
        int count = k.permitCount();
        Check.same("permit, " + what, Check.outcome(() -> k.permit(kite, start, duration)), "" + (count + 1));
        k.undo();
        Check.same("undo, " + what, Picture.of(k), before);
    }

    // ---- reasons for which a permit is refused

    private static void past() {
        Check.sentence("1 the start hour is less than the present hour;");
        KitePermits k = Check.office("field 20 20 0 0;zone 2 5;colour 9;kite 0 5 9 0 0 0;");
        reason("hour 0 in hour 0", k, 0, 0, 1, 0);
        k.passHours(1);
        reason("hour 0 in hour 1", k, 0, 0, 1, 1);
        reason("from hour 0 on in hour 1", k, 0, 0, 24, 1);
        reason("hour 1 in hour 1", k, 0, 1, 1, 0);
        k.passHours(48);
        reason("hour 48 in hour 49", k, 0, 48, 24, 1);
        reason("hour 49 in hour 49", k, 0, 49, 24, 0);
        reason("the last start hour", k, 0, 999999, 24, 0);
    }

    private static void thirty() {
        Check.sentence("2 there are 30 permits;");
        KitePermits k = Check.office("field 20 20 0 0;zone 2 5;colour 9;kite 0 5 9 0 0 0;kite 0 7 9 0 0 0;");
        for (int i = 0; i < 29; i++) {
            k.permit(0, i, 1);
        }
        reason("29 permits", k, 1, 99, 1, 0);
        k.permit(0, 29, 1);
        reason("30 permits", k, 1, 99, 1, 2);
        k.undo();
        reason("29 permits again", k, 1, 99, 1, 0);
    }

    private static void ownPermits() {
        Check.sentence("3 a permit of the same kite covers one of the hours;");
        KitePermits k = Check.office("field 20 20 0 0;zone 2 5;colour 9;kite 0 5 9 0 0 0;kite 0 7 9 0 0 0;");
        k.permit(0, 10, 3);
        reason("just before", k, 0, 8, 2, 0);
        reason("into its first hour", k, 0, 8, 3, 3);
        reason("its first hour alone", k, 0, 10, 1, 3);
        reason("its last hour alone", k, 0, 12, 1, 3);
        reason("from its last hour on", k, 0, 12, 5, 3);
        reason("just after", k, 0, 13, 24, 0);
        reason("all round it", k, 0, 1, 24, 3);
        reason("the same hours", k, 0, 10, 3, 3);
        reason("another kite", k, 1, 10, 3, 0);
        k.permit(0, 16, 2);
        reason("just between both", k, 0, 13, 3, 0);
        reason("into the second one", k, 0, 13, 4, 3);
        k.cancelPermits(0);
        reason("cancelled", k, 0, 10, 8, 0);
    }

    private static void usedQuota() {
        Check.sentence("4 in one of the hours, the number of permits of kites with the same colour that cover this hour is the quota or more;");
        KitePermits k = Check.office("field 20 20 0 0;zone 2 5;colour 2;colour 1;"
                + "kite 0 1 9 0 0 0;kite 0 3 9 0 0 0;kite 0 5 9 0 0 0;kite 0 7 9 1 0 0;kite 0 9 9 1 0 0;");
        reason("none of 2", k, 2, 12, 1, 0);
        k.permit(0, 10, 3);
        reason("one of 2", k, 2, 10, 3, 0);
        k.permit(1, 12, 3);
        reason("two of 2 in its only hour", k, 2, 12, 1, 4);
        reason("two of 2 in its last hour", k, 2, 11, 2, 4);
        reason("two of 2 in its first hour", k, 2, 12, 24, 4);
        reason("two of 2 in between", k, 2, 5, 24, 4);
        reason("just before", k, 2, 2, 10, 0);
        reason("just after", k, 2, 13, 10, 0);
        reason("another colour", k, 3, 10, 5, 0);
        k.permit(3, 10, 5);
        reason("one of 1", k, 4, 14, 1, 4);
        reason("none of 1", k, 4, 15, 1, 0);
        k.cancelPermits(1);
        reason("one of 2 again", k, 2, 12, 1, 0);
        KitePermits none = Check.office("field 20 20 0 0;zone 2 5;colour 0;kite 0 1 9 0 0 0;");
        reason("none of 0", none, 0, 0, 1, 4);
    }

    private static void noFlight() {
        Check.sentence("5 the kite cannot fly in one of the hours;");
        // In hours 3, 7, 11 .. kite 0 is blown out, and kite 1 has a reach of 0.
        KitePermits k = Check.office("field 20 20 0 0;zone 2 5 2 5 2 5 6 1;colour 9;kite 0 1 9 0 0 0;kite 9 3 9 0 1 0;");
        for (int kite = 0; kite < 2; kite++) {
            reason("up to the calm", k, kite, 0, 3, 0);
            reason("into the calm", k, kite, 0, 4, 5);
            reason("in the calm", k, kite, 3, 1, 5);
            reason("from the calm on", k, kite, 3, 4, 5);
            reason("between", k, kite, 4, 3, 0);
            reason("a calm in between", k, kite, 2, 3, 5);
            reason("the last start hour is calm", k, kite, 999999, 1, 5);
            reason("the hour before it", k, kite, 999998, 1, 0);
            reason("calm after the last start hour", k, kite, 999996, 24, 5);
        }
        KitePermits after = Check.office("field 20 20 0 0;zone 2 5 2 0 2 5 2 5 2 5 2 5;colour 9;kite 0 1 9 0 0 0;");
        // 999999 is the fourth of six hours, so hour 1000003 is the calm one.
        reason("up to hour 1000002", after, 0, 999999, 4, 0);
        reason("up to hour 1000003", after, 0, 999999, 5, 5);
    }

    private static void crossedStrings() {
        Check.sentence("6 in one of the hours, its string crosses the string of another kite that has a permit covering this hour;");
        KitePermits k = Check.office("field 40 20 0 0;zone 2 5;colour 9;kite 0 5 9 0 0 0;kite 9 5 9 0 0 0;kite 19 5 9 0 0 0;");
        reason("no other permit", k, 1, 0, 24, 0);
        k.permit(0, 10, 3);
        reason("just before", k, 1, 5, 5, 0);
        reason("into its first hour", k, 1, 5, 6, 6);
        reason("its last hour", k, 1, 12, 1, 6);
        reason("its hours in between", k, 1, 1, 24, 6);
        reason("just after", k, 1, 13, 24, 0);
        reason("one step beside", k, 2, 10, 3, 0);
        KitePermits turning = Check.office("field 40 20 0 0;zone 2 5;zone 6 5 0 5 0 5;colour 9;kite 10 5 9 0 0 0;kite 28 5 9 0 0 0;");
        turning.permit(0, 0, 24);
        // The strings meet in hours 0, 3, 6 .. only.
        reason("the hour of the crossing", turning, 1, 3, 1, 6);
        reason("the hours between", turning, 1, 4, 2, 0);
        reason("up to the next crossing", turning, 1, 4, 3, 6);
        reason("the last hour of the other permit", turning, 1, 22, 9, 0);
    }

    private static void poorPurse() {
        Check.sentence("7 the purse contains less than the price, which is the fee times the duration.");
        KitePermits k = Check.office("field 20 20 20 0;zone 2 5;colour 9;kite 0 1 9 0 0 480;kite 0 3 9 0 0 479;kite 0 5 9 0 0 20;kite 0 7 9 0 0 19;kite 0 9 9 0 0 0;");
        reason("480 for 480", k, 0, 0, 24, 0);
        reason("479 for 480", k, 1, 0, 24, 7);
        reason("479 for 460", k, 1, 0, 23, 0);
        reason("20 for 20", k, 2, 0, 1, 0);
        reason("20 for 40", k, 2, 0, 2, 7);
        reason("19 for 20", k, 3, 0, 1, 7);
        reason("0 for 20", k, 4, 0, 1, 7);
        Check.same("all that it has", k.permit(0, 0, 24), 1);
        Check.same("an empty purse", k.purse(0), 0);
        KitePermits free = Check.office("field 20 20 0 0;zone 2 5;colour 9;kite 0 1 9 0 0 0;");
        reason("0 for 0", free, 0, 0, 24, 0);
    }

    private static void firstReason() {
        Check.sentence("A permit is refused for the first of these reasons that applies:");
        // Kite 0 has a permit in hour 4; its colour is used up in hour 5; it is blown out in hours 3, 7 ..;
        // the string of kite 1 is in its way in hour 8; and its purse is empty.
        KitePermits k = Check.office("field 40 20 1 0;zone 2 5 2 5 2 5 6 5;colour 1;colour 9;"
                + "kite 0 5 9 0 0 1;kite 5 5 9 1 0 1;kite 0 9 9 0 0 1;kite 0 15 9 1 0 99;");
        k.passHours(2);
        k.permit(0, 4, 1);
        k.permit(2, 5, 1);
        k.permit(1, 8, 1);
        reason("no coins", k, 0, 9, 1, 7);
        reason("a string in the way, and no coins", k, 0, 8, 1, 6);
        reason("no flight, and all later reasons", k, 0, 7, 2, 5);
        reason("no quota, and all later reasons", k, 0, 5, 4, 4);
        reason("an own permit, and all later reasons", k, 0, 4, 5, 3);
        reason("hour 1 is past, and all but the 30", k, 0, 1, 8, 1);
        for (int i = 0; i < 27; i++) {
            k.permit(3, 100 + 4 * i, 1);
        }
        reason("30 permits, and all later reasons", k, 0, 4, 5, 2);
        reason("hour 1 is past, and all later reasons", k, 0, 1, 8, 1);
    }

    private static void prices() {
        Check.sentence("The price is paid to the office.");
        KitePermits k = Check.office("field 20 20 20 0;zone 2 5;colour 9;kite 0 1 9 0 0 999;");
        k.permit(0, 0, 1);
        Check.same("one hour", k.officeCoins(), 20);
        Check.same("its purse", k.purse(0), 979);
        k.permit(0, 1, 24);
        Check.same("25 hours", k.officeCoins(), 500);
        Check.same("its purse", k.purse(0), 499);
        Check.same("coinError", k.coinError(), 0);
    }

    private static void fees() {
        Check.sentence("The fee is 0 to 20 coins.");
        Texts.setupNumber("field 10 10 ", 0, 20, " 5;zone 0 0;colour 0;");
        Check.same("the smallest fee", Texts.setup("field 10 10 0 50;zone 0 0;colour 0;").fee(), 0);
        Check.same("the greatest fee", Texts.setup("field 10 10 20 50;zone 0 0;colour 0;").fee(), 20);
    }

    private static void anyState() {
        Check.sentence("The state of the kite does not matter for a permit.");
        KitePermits k = Check.office("field 20 20 0 0;zone 2 5;colour 9;kite 0 1 9 0 0 0;kite 0 3 9 0 0 0;kite 1 3 9 0 0 0;");
        reason("grounded", k, 0, 0, 1, 0);
        k.launch(0);
        k.launch(1);
        k.launch(2);
        reason("flying", k, 0, 0, 1, 0);
        k.passHours(1);
        Check.same("tangled", k.stateOf(1), 2);
        reason("tangled", k, 1, 1, 1, 0);
    }

    // ---- flying

    private static void launches() {
        Check.sentence("A kite can be launched unless one of these reasons applies; the first one counts: 1 it is not grounded;"
                + " 2 it cannot fly in the present hour.");
        KitePermits k = Check.office("field 20 20 0 0;zone 2 5 2 0;colour 0;"
                + "kite 10 1 9 0 0 0;kite 10 3 10 0 0 0;kite 0 5 1 0 4 0;kite 0 7 9 0 5 0;kite 0 9 9 0 0 0;kite 1 9 9 0 0 0;");
        Check.same("just to the border", k.launch(0), 9);
        Check.refused("a flying kite", STATE, k, x -> x.launch(0));
        Check.refused("a step beyond the border", STATE, k, x -> x.launch(1));
        Check.refused("a lift of 1 and a reach of 0", STATE, k, x -> x.launch(2));
        Check.refused("a lift of 0", STATE, k, x -> x.launch(3));
        k.passHours(1);
        Check.refused("no wind in the present hour", STATE, k, x -> x.launch(0));
        k.passHours(1);
        Check.same("wind in the present hour", k.launch(0), 9);
        k.land(0);
        Check.same("landed and launched again", k.launch(0), 9);
        KitePermits tangled = Check.office("field 20 20 0 0;zone 2 5;colour 0;kite 0 9 9 0 0 0;kite 1 9 9 0 0 0;");
        tangled.launch(0);
        tangled.launch(1);
        tangled.passHours(1);
        Check.refused("a tangled kite", STATE, tangled, x -> x.launch(1));
        tangled.repair(1);
        Check.same("a repaired kite", tangled.launch(1), 9);
    }

    private static void withoutPermit() {
        Check.sentence("It needs no permit.");
        KitePermits k = Check.office("field 20 20 20 0;zone 2 5;colour 0;kite 0 9 9 0 0 0;");
        Check.same("no permit can be had", k.whyNotPermit(0, 0, 1), 4);
        Check.same("launched all the same", k.launch(0), 9);
        k.passHours(3);
        Check.same("and flying on", k.stateOf(0), 1);
    }

    private static KitePermits line(int kites, int fine, int purse) {
        StringBuilder text = new StringBuilder("field 20 20 0 " + fine + ";zone 2 5;colour 9;");
        for (int kite = 0; kite < kites; kite++) {
            text.append("kite ").append(kite % 2).append(" 5 9 0 0 ").append(purse).append(';');
        }
        return Check.office(text.toString());
    }

    private static void launchOrder() {
        Check.sentence("Launches are numbered in their order.");
        KitePermits k = line(3, 0, 0);
        k.launch(2);
        k.launch(0);
        k.launch(1);
        Check.same("the second one after the first one", k.guiltyKite(0, 2), 0);
        Check.same("the third one after the second one", k.guiltyKite(0, 1), 1);
        k.land(2);
        Check.script(k, "launch 2;");
        Check.same("launched again, by a script", k.guiltyKite(2, 1), 2);
        for (int i = 0; i < 200; i++) {
            k.land(0);
            k.launch(0);
        }
        Check.same("after 200 launches more", k.guiltyKite(2, 0), 0);
        // The order comes back by undo and by a snapshot.
        KitePermits back = line(2, 0, 0);
        back.launch(0);
        back.launch(1);
        back.saveSnapshot(0);
        back.land(0);
        back.launch(0);
        Check.same("launched again", back.guiltyKite(0, 1), 0);
        back.undo();
        back.undo();
        Check.same("undone", back.guiltyKite(0, 1), 1);
        back.land(0);
        back.launch(0);
        back.restoreSnapshot(0);
        Check.same("restored", back.guiltyKite(0, 1), 1);
        back.undo();
        Check.same("restoring undone", back.guiltyKite(0, 1), 0);
    }

    // ---- an hour passes

    private static void endedPermits() {
        Check.sentence("The present hour grows by 1. Permits that cover no hour from the present one on are removed.");
        KitePermits k = Check.office("field 20 20 0 0;zone 2 5;colour 9;kite 0 1 9 0 0 0;kite 0 3 9 0 0 0;kite 0 5 9 0 0 0;kite 0 7 9 0 0 0;");
        k.permit(0, 0, 24);
        k.permit(1, 0, 1);
        k.permit(2, 0, 2);
        k.permit(3, 25, 1);
        k.passHours(1);
        Check.same("hour 0 has passed", Check.output(k), "0:0+24 2:0+2 3:25+1");
        Check.same("hour", k.hour(), 1);
        k.passHours(1);
        Check.same("hour 1 has passed", Check.output(k), "0:0+24 3:25+1");
        k.passHours(21);
        Check.same("hour 22 has passed", Check.output(k), "0:0+24 3:25+1");
        k.passHours(1);
        Check.same("hour 23 has passed", Check.output(k), "3:25+1");
        k.passHours(1);
        Check.same("its only hour is the present one", Check.output(k), "3:25+1");
        k.passHours(1);
        Check.same("an empty list", Check.output(k), "");
        k.passHours(48);
        Check.same("hour", k.hour(), 74);
        KitePermits all = Check.office("field 20 20 0 0;zone 2 5;colour 9;kite 0 1 9 0 0 0;");
        for (int i = 0; i < 30; i++) {
            all.permit(0, 29 - i, 1);
        }
        all.passHours(30);
        Check.same("a full list becomes empty", all.permitCount(), 0);
    }

    private static void becalmed() {
        Check.sentence("Each flying kite that cannot fly in the present hour becomes grounded.");
        KitePermits k = Check.office("field 20 20 0 0;zone 2 5 6 1;colour 0;"
                + "kite 0 1 9 0 0 0;kite 1 3 9 0 0 0;kite 2 5 4 0 0 0;kite 2 7 5 0 0 0;kite 9 9 9 0 1 0;");
        for (int kite = 0; kite < 5; kite++) {
            k.launch(kite);
        }
        k.passHours(1);
        int[] due = {0, 1, 0, 1, 0};
        String[] what = {"a step beyond the border", "just to the border", "a reach of 0", "a reach of 1", "a lift of 0"};
        for (int kite = 0; kite < 5; kite++) {
            Check.same(what[kite], k.stateOf(kite), due[kite]);
        }
        // Both would cross in hour 1, but one of them is grounded before.
        KitePermits before = Check.office("field 20 20 0 5;zone 2 5 6 5;colour 0;kite 4 5 9 0 0 9;kite 9 5 9 0 0 9;");
        before.launch(0);
        before.passHours(2);
        before.launch(1);
        before.launch(0);
        Check.same("a grounded kite crosses nothing", before.doCross(0, 1, 3), true);
        Check.same("no verdict", before.passHours(1), 0);
        Check.same("grounded", before.stateOf(0), 0);
        Check.same("flying", before.stateOf(1), 1);
        // A tangled kite without wind stays tangled.
        KitePermits tangled = Check.office("field 20 20 0 0;zone 2 5 2 5 2 0;colour 0;kite 0 5 9 0 0 0;kite 1 5 9 0 0 0;");
        tangled.launch(0);
        tangled.launch(1);
        tangled.passHours(2);
        Check.same("a tangled kite without wind", tangled.stateOf(0), 2);
    }

    private static void flyingPairs() {
        Check.sentence("For each pair of flying kites whose strings cross in the present hour, there is a verdict.");
        KitePermits none = line(2, 5, 9);
        Check.same("no kite flies", none.passHours(1), 0);
        none.launch(0);
        Check.same("one kite flies", none.passHours(1), 0);
        none.launch(1);
        Check.same("two kites fly", none.passHours(1), 1);
        Check.same("both are tangled", none.passHours(48), 0);
        KitePermits beside = Check.office("field 40 20 0 5;zone 2 5;colour 0;kite 0 5 9 0 0 9;kite 10 5 9 0 0 9;kite 19 5 9 0 0 9;");
        beside.launch(0);
        beside.launch(1);
        Check.same("one step apart", beside.passHours(1), 0);
        beside.launch(2);
        Check.same("one common point", beside.passHours(1), 1);
        Check.same("the first is not tangled", beside.stateOf(0), 1);
        KitePermits alone = new KitePermits();
        Check.feed(alone, Texts.FIELD + Texts.ZONE + Texts.COLOUR);
        alone.loadSetup();
        Check.same("no kites at all", alone.passHours(48), 0);
        KitePermits turning = Check.office("field 40 20 0 5;zone 2 5;zone 0 5 6 5 0 5;colour 9;kite 10 5 9 0 0 9;kite 28 5 9 0 0 9;");
        turning.launch(0);
        turning.launch(1);
        Check.same("the crossing in hour 1 counts, not that of hour 0", turning.verdictsIn(3), 1);
        Check.same("the first hour", turning.passHours(1), 1);
    }

    private static void pairOrder() {
        Check.sentence("The pairs are taken in ascending order of the smaller index, and then of the greater index.");
        // All cross one another; the later ones are guilty, and kite 3 has 5 coins for a fine of 3.
        KitePermits k = Check.office("field 20 20 0 3;zone 2 5;colour 9;kite 0 5 9 0 0 0;kite 1 5 9 0 0 0;kite 2 5 9 0 0 0;kite 3 5 9 0 0 5;");
        for (int kite = 0; kite < 4; kite++) {
            k.launch(kite);
        }
        // 0-3: 3 pays 3; 1-2: 2 has nothing; 1-3: 3 pays 2; 2-3: 3 has nothing.
        Check.same("verdicts", k.passHours(1), 6);
        int[] due = {3, 2, 0, 0};
        for (int kite = 0; kite < 4; kite++) {
            Check.same("purse of kite " + kite, k.purse(kite), due[kite]);
        }
        // The other way round, kite 0 pays first to 1, then to 2; kite 1 passes it on to 2 and 3.
        KitePermits back = Check.office("field 20 20 0 3;zone 2 5;colour 9;kite 0 5 9 0 0 5;kite 1 5 9 0 0 1;kite 2 5 9 0 0 0;kite 3 5 9 0 0 0;");
        for (int kite = 3; kite >= 0; kite--) {
            back.launch(kite);
        }
        // 0-1: 3, so 2 and 4; 0-2: 2; 0-3: 0; 1-2: 3, so 1 and 5; 1-3: 1; 2-3: 3.
        Check.same("verdicts", back.passHours(1), 6);
        int[] backDue = {0, 0, 2, 4};
        for (int kite = 0; kite < 4; kite++) {
            Check.same("purse of kite " + kite, back.purse(kite), backDue[kite]);
        }
    }

    private static void guilt(String what, String permits, int due) {
        KitePermits k = line(2, 5, 100);
        Check.script(k, permits);
        k.launch(0);
        k.launch(1);
        k.passHours(1);
        Check.same("the guilty kite, " + what, k.purse(0) == 95 && k.purse(1) == 105 ? 0 : k.purse(1) == 95 && k.purse(0) == 105 ? 1 : 2, due);
    }

    private static void permittedKites() {
        Check.sentence("If exactly one of both kites has a permit that covers the present hour, the other one is guilty.");
        guilt("no permits", "", 1);
        guilt("one for hour 1", "permit 1 1 1;", 0);
        guilt("one up to hour 1", "permit 1 0 2;", 0);
        guilt("one from hour 1 on", "permit 1 1 24;", 0);
        guilt("one that ends before", "permit 1 0 1;", 1);
        guilt("one that begins after", "permit 1 2 24;", 1);
        guilt("the other has one", "permit 0 1 1;", 1);
        guilt("one was cancelled", "permit 1 1 1;cancel 1;", 1);
        guilt("one before and one after", "permit 1 0 1;permit 1 2 1;", 1);
        guilt("the second of two", "permit 1 9 1;permit 1 1 1;", 0);
    }

    private static void launchedLater() {
        Check.sentence("Otherwise the one that was launched later is guilty.");
        // Their strings cross in hours 2, 5 .. only; so both can have a permit for hour 1 and none is in the way.
        String text = "field 40 20 0 5;zone 2 5;zone 0 5 0 5 6 5;colour 9;kite 10 5 9 0 0 100;kite 28 5 9 0 0 100;";
        for (int first = 0; first < 2; first++) {
            KitePermits k = Check.office(text);
            k.launch(first);
            k.launch(1 - first);
            Check.same("no permits", k.guiltyKite(0, 1), 1 - first);
            k.permit(0, 0, 2);
            k.permit(1, 0, 2);
            Check.same("two permits", k.guiltyKite(0, 1), 1 - first);
            Check.same("verdicts", k.passHours(2), 1);
            Check.same("no permits any more", k.purse(1 - first), 95);
            Check.same("the other one", k.purse(first), 105);
        }
    }

    private static void fines() {
        Check.sentence("The guilty kite pays the fine, or its whole purse if that contains less, to the other kite.");
        for (int purse : new int[] {0, 1, 6, 7, 8, 999}) {
            KitePermits k = line(2, 7, purse);
            k.launch(0);
            k.launch(1);
            k.passHours(1);
            int paid = purse < 7 ? purse : 7;
            Check.same("the purse of the guilty kite with " + purse, k.purse(1), purse - paid);
            Check.same("the purse of the other kite with " + purse, k.purse(0), purse + paid);
            Check.same("the office gets nothing", k.officeCoins(), 0);
        }
    }

    private static void fineRange() {
        Check.sentence("The fine is 0 to 50 coins.");
        Texts.setupNumber("field 10 10 5 ", 0, 50, ";zone 0 0;colour 0;");
        for (int fine : new int[] {0, 50}) {
            KitePermits k = line(2, fine, 100);
            Check.same("fine", k.fine(), fine);
            k.launch(0);
            k.launch(1);
            k.passHours(1);
            Check.same("the purse of the guilty kite", k.purse(1), 100 - fine);
            Check.same("the purse of the other kite", k.purse(0), 100 + fine);
        }
    }

    private static void severalVerdicts() {
        Check.sentence("A kite can take part in several verdicts, and by fines a purse can contain more than 99999 coins.");
        KitePermits all = line(16, 0, 0);
        for (int kite = 0; kite < 16; kite++) {
            all.launch(kite);
        }
        Check.same("all pairs of 16", all.passHours(1), 120);
        for (int kite = 0; kite < 16; kite++) {
            Check.same("verdicts of kite " + kite, all.tangles(kite), 15);
        }
        KitePermits rich = line(3, 50, 999);
        for (int i = 0; i < 99; i++) {
            rich.fund(0, 999);
        }
        rich.fund(0, 999);
        Check.same("a full purse", rich.purse(0), 99999);
        rich.launch(0);
        rich.launch(1);
        rich.launch(2);
        Check.same("verdicts", rich.passHours(1), 3);
        Check.same("two fines more", rich.purse(0), 100099);
        Check.same("coinError", rich.coinError(), 0);
    }

    private static void tangleCounts() {
        Check.sentence("The number of tangles of both kites grows by 1.");
        KitePermits k = line(3, 5, 100);
        k.launch(0);
        k.launch(1);
        k.passHours(1);
        int[] due = {1, 1, 0};
        for (int kite = 0; kite < 3; kite++) {
            Check.same("tangles of kite " + kite, k.tangles(kite), due[kite]);
        }
        k.repair(1);
        k.launch(1);
        k.launch(2);
        k.passHours(1);
        int[] again = {1, 2, 1};
        for (int kite = 0; kite < 3; kite++) {
            Check.same("tangles of kite " + kite + " an hour later", k.tangles(kite), again[kite]);
        }
    }

    private static void allTangled() {
        Check.sentence("All kites of these pairs become tangled.");
        // 0 and 1 cross, 1 and 2 cross, 0 and 2 do not; 3 is alone; 4 stays on the ground.
        KitePermits k = Check.office("field 40 20 0 0;zone 2 5;colour 0;"
                + "kite 0 5 5 0 0 0;kite 5 5 5 0 0 0;kite 10 5 5 0 0 0;kite 0 9 5 0 0 0;kite 0 5 9 0 0 0;");
        for (int kite = 0; kite < 4; kite++) {
            k.launch(kite);
        }
        Check.same("a kite of the first pair is still in the second one", k.passHours(1), 2);
        int[] due = {2, 2, 2, 1, 0};
        for (int kite = 0; kite < due.length; kite++) {
            Check.same("state of kite " + kite, k.stateOf(kite), due[kite]);
        }
        // A kite that was tangled in one hour is not so again by what was left of that hour.
        k.repair(0);
        k.launch(0);
        Check.same("the next hour", k.passHours(1), 0);
        Check.same("a kite that flies alone", k.stateOf(0), 1);
    }

    // ---- repairs

    private static void repairs() {
        Check.sentence("Repairing a tangled kite costs 2 coins for each knot, paid to the office.");
        KitePermits none = Check.office("field 20 20 0 0;zone 2 5;colour 9;kite 0 5 9 0 0 0;kite 1 5 9 0 0 0;");
        none.launch(0);
        none.launch(1);
        none.passHours(1);
        Check.same("no knots", none.repair(0), 0);
        Check.same("no coins", none.officeCoins(), 0);
        // A kite with 9 knots never flies, so it is never tangled.
        for (int knots = 1; knots <= 8; knots++) {
            String text = "field 20 20 0 0;zone 2 9;colour 9;kite 0 5 5 0 " + knots + " " + 2 * knots + ";kite 0 5 9 0 0 0;";
            KitePermits k = Check.office(text);
            k.launch(0);
            k.launch(1);
            k.passHours(1);
            Check.same("repair with " + knots + " knots", k.repair(0), 2 * knots);
            Check.same("the purse is empty", k.purse(0), 0);
            Check.same("the office has it", k.officeCoins(), 2 * knots);
            KitePermits poor = Check.office(text.replace(" " + 2 * knots + ";", " " + (2 * knots - 1) + ";"));
            poor.launch(0);
            poor.launch(1);
            poor.passHours(1);
            Check.refused("repair with a coin too little for " + knots + " knots", STATE, poor, x -> x.repair(0));
        }
    }

    private static void repairedKites() {
        Check.sentence("It is grounded afterwards.");
        KitePermits k = Check.office("field 20 20 0 0;zone 2 5;colour 9;kite 0 5 9 0 1 9;kite 1 5 9 0 0 0;");
        k.launch(0);
        k.launch(1);
        k.passHours(1);
        k.repair(0);
        Check.same("state", k.stateOf(0), 0);
        Check.same("the other one", k.stateOf(1), 2);
        Check.refused("repaired twice", STATE, k, x -> x.repair(0));
        Check.refused("landed", STATE, k, x -> x.land(0));
        Check.same("knots can be tied", k.tieKnots(0, 0), 1);
        Check.same("and it can be launched", k.launch(0), 9);
    }

    public static void main(String[] args) {
        past();
        thirty();
        ownPermits();
        usedQuota();
        noFlight();
        crossedStrings();
        poorPurse();
        firstReason();
        prices();
        fees();
        anyState();
        launches();
        withoutPermit();
        launchOrder();
        endedPermits();
        becalmed();
        flyingPairs();
        pairOrder();
        permittedKites();
        launchedLater();
        fines();
        fineRange();
        severalVerdicts();
        tangleCounts();
        allTangled();
        repairs();
        repairedKites();
        Check.finish("RulesBoundsTest");
    }
}
