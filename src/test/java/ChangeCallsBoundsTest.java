import java.util.NoSuchElementException;

/** Promises 1 to 19: each sentence that names a boundary case. */
final class ChangeCallsBoundsTest {
    private static final Class<?> INDEX = IndexOutOfBoundsException.class;
    private static final Class<?> ARGUMENT = IllegalArgumentException.class;
    private static final Class<?> STATE = IllegalStateException.class;
    private static final Class<?> MISSING = NoSuchElementException.class;
    private static final int NONE = KitePermits.NONE;
    private static final String FREE = "field 20 20 0 0;zone 2 5;colour 9;";
    private static final String BARE = Texts.FIELD + Texts.ZONE + Texts.COLOUR;

    private ChangeCallsBoundsTest() {
    }

    private static int blanks(KitePermits k) {
        return k.append(0x20202020, 0x20202020, 0x20202020, 0x20202020, 0x20202020);
    }

    // ---- promise 1

    private static void newOffice() {
        Check.sentence(1, "Creates an office as by the setup \"field 40 30 2 10; zone 2 3 0 5; zone 6 4; colour 2; colour 1;"
                + " kite 5 10 10 0 0 50; kite 15 8 10 0 1 40; kite 34 10 15 1 1 30; kite 22 10 20 0 0 0;\", with an empty input buffer,"
                + " an empty output text and no snapshots.");
        KitePermits k = new KitePermits();
        KitePermits loaded = Texts.setup("field 40 30 2 10; zone 2 3 0 5; zone 6 4; colour 2; colour 1; kite 5 10 10 0 0 50;"
                + " kite 15 8 10 0 1 40; kite 34 10 15 1 1 30; kite 22 10 20 0 0 0;");
        Check.same("the state", Picture.of(k), Picture.of(loaded));
        Check.refused("one byte of the input", ARGUMENT, k, x -> x.truncate(1));
        Check.same("no byte of the input", k.truncate(0), 0);
        Check.same("the first byte of the output", k.outputByte(0), NONE);
        Check.refused("the first snapshot", MISSING, k, x -> x.restoreSnapshot(0));
        Check.refused("the second snapshot", MISSING, k, x -> x.restoreSnapshot(1));
        Check.same("an empty script", k.runScript(), 0);
    }

    private static void newUndo() {
        Check.sentence(1, "No change can be undone.");
        Check.refused("undo", MISSING, new KitePermits(), k -> k.undo());
    }

    // ---- promises 2 to 5

    private static void fourBytes() {
        Check.sentence(2, "Appends twenty bytes to the input buffer: the four bytes of each argument, the most significant byte first.");
        for (int place = 0; place < 20; place++) {
            for (int code : new int[] {0, 1, 127, 128, 255}) {
                int[] w = {0x20202020, 0x20202020, 0x20202020, 0x20202020, 0x20202020};
                int shift = 24 - 8 * (place % 4);
                w[place / 4] = w[place / 4] & ~(255 << shift) | code << shift;
                KitePermits k = new KitePermits();
                k.append(w[0], w[1], w[2], w[3], w[4]);
                Check.badArgument("byte " + code + " at " + place, () -> k.runScript());
                Check.same("the place of byte " + code + " at " + place, k.errorPosition(), place);
            }
        }
        KitePermits rows = new KitePermits();
        // "pay " "0 1;" "land" " 0; " "    " and then "hour" "s 7;" with blanks
        rows.append(0x70617920, 0x3020313b, 0x20202020, 0x20202020, 0x20202020);
        rows.append(0x686f7572, 0x7320373b, 0x20202020, 0x20202020, 0x20202020);
        Check.same("two rows", rows.runScript(), 2);
        Check.same("hour", rows.hour(), 7);
    }

    private static void newLength() {
        Check.sentence(2, "Returns the new length of the buffer.");
        KitePermits k = new KitePermits();
        for (int length = 20; length <= 500; length += 20) {
            Check.same("append", blanks(k), length);
        }
        k.truncate(1);
        Check.same("append to one byte", blanks(k), 21);
        k.truncate(0);
        Check.same("append to none", blanks(k), 20);
    }

    private static void fullBuffer() {
        Check.sentence(2, "Throws `IllegalStateException` if the new length would exceed 500");
        for (int length : new int[] {500, 499, 482, 481}) {
            KitePermits k = new KitePermits();
            Check.feed(k, " ".repeat(length));
            Check.refused("append to " + length, STATE, k, x -> blanks(x));
            Check.refused("append of bytes 0 to " + length, STATE, k, x -> x.append(0, 0, 0, 0, 0));
            Check.badArgument("truncate to more than " + length, () -> k.truncate(length + 1));
            Check.same("the length stays", k.truncate(length), length);
        }
        for (int length : new int[] {480, 479, 0}) {
            KitePermits k = new KitePermits();
            Check.feed(k, " ".repeat(length));
            Check.same("append to " + length, blanks(k), length + 20);
        }
    }

    private static void firstBytes() {
        Check.sentence(3, "Shortens the input buffer to its first bytes.");
        String text = "hours 1;hours 2;hours 4;";
        int[] lengths = {0, 8, 16, 24};
        int[] hours = {0, 1, 3, 7};
        for (int i = 0; i < lengths.length; i++) {
            KitePermits k = new KitePermits();
            Check.feed(k, text);
            k.truncate(lengths[i]);
            Check.same("commands of " + lengths[i] + " bytes", k.runScript(), i);
            Check.same("hours of " + lengths[i] + " bytes", k.hour(), hours[i]);
        }
        KitePermits k = new KitePermits();
        Check.feed(k, text);
        k.truncate(7);
        k.append(0x203b2020, 0x20202020, 0x20202020, 0x20202020, 0x20202020);
        Check.same("what was cut off does not come back", k.runScript(), 1);
        Check.same("hour", k.hour(), 1);
    }

    private static void truncatedLength() {
        Check.sentence(3, "Throws `IllegalArgumentException` if length is out of range");
        KitePermits k = new KitePermits();
        Check.refused("one byte of none", ARGUMENT, k, x -> x.truncate(1));
        Check.refused("-1 bytes of none", ARGUMENT, k, x -> x.truncate(-1));
        blanks(k);
        Check.refused("21 bytes of 20", ARGUMENT, k, x -> x.truncate(21));
        Check.same("20 bytes of 20", k.truncate(20), 20);
        Check.same("19 bytes of 20", k.truncate(19), 19);
        Check.refused("20 bytes of 19", ARGUMENT, k, x -> x.truncate(20));
    }

    private static void truncateRange() {
        Check.sentence(3, "`length`: the new length, 0 to the current length");
        for (int length : new int[] {0, 1, 20, 499, 500}) {
            Check.bounds("truncate a buffer of " + length, 0, length, ARGUMENT, () -> {
                KitePermits k = new KitePermits();
                Check.feed(k, " ".repeat(length));
                return k;
            }, (k, value) -> k.truncate(value));
            KitePermits k = new KitePermits();
            Check.feed(k, " ".repeat(length));
            Check.same("truncate to the current length", k.truncate(length), length);
            Check.same("truncate to 0", k.truncate(0), 0);
        }
    }

    private static void codes() {
        Check.sentence(4, "Returns SYNTAX, RANGE or LIMIT; 0 if that text had no error or there was no such call.");
        KitePermits k = new KitePermits();
        Check.same("no such call", k.errorCode(), 0);
        String[] texts = {"x", "hours 1;", "hours 0;", "land 0;", "hours 1;".repeat(21), ""};
        int[] due = {1, 0, 2, 0, 3, 0};
        for (int i = 0; i < texts.length; i++) {
            Check.feed(k, texts[i]);
            int before = i == 0 ? 0 : due[i - 1];
            Check.same("the error of the text before", k.errorCode(), before);
            Check.outcome(() -> k.runScript());
            Check.same("the error of " + texts[i], k.errorCode(), due[i]);
        }
        Check.badArgument("an empty setup", () -> k.loadSetup());
        Check.same("the error of an empty setup", k.errorCode(), KitePermits.SYNTAX);
        Check.feed(k, BARE);
        k.loadSetup();
        Check.same("the error of a setup without one", k.errorCode(), 0);
    }

    private static void positions() {
        Check.sentence(5, "Returns the position; NONE if that text had no error or there was no such call.");
        KitePermits k = new KitePermits();
        Check.same("no such call", k.errorPosition(), NONE);
        String[] texts = {"x", "hours 1;", "hours 0;", "land 0;", "hours 1;".repeat(21), "", " ".repeat(500), " ".repeat(499) + "x", ";"};
        int[] due = {0, NONE, 6, NONE, 160, NONE, NONE, 499, 0};
        for (int i = 0; i < texts.length; i++) {
            Check.feed(k, texts[i]);
            Check.same("the position of the text before", k.errorPosition(), i == 0 ? NONE : due[i - 1]);
            Check.outcome(() -> k.runScript());
            Check.same("the position of \"" + texts[i] + "\"", k.errorPosition(), due[i]);
        }
        Check.feed(k, " ".repeat(500));
        Check.badArgument("a setup of 500 spaces", () -> k.loadSetup());
        Check.same("its end", k.errorPosition(), 500);
        Check.badArgument("an empty setup", () -> k.loadSetup());
        Check.same("its end", k.errorPosition(), 0);
    }

    // ---- promises 6 and 7

    /** An office in which every row has been used: 16 kites, 30 permits, launches, tangles, coins. */
    private static KitePermits full() {
        StringBuilder text = new StringBuilder("field 100 100 1 9;zone 2 5 2 5 2 5 2 5 2 5 2 5;zone 6 9 0 8 1 7 3 6 4 5 5 4;zone 7 7;zone 1 1;" + "colour 9;".repeat(6));
        for (int kite = 0; kite < 16; kite++) {
            text.append("kite ").append(kite % 2).append(' ').append(kite / 2).append(" 9 ").append(kite % 6).append(" 1 99;");
        }
        KitePermits k = Check.office(text.toString());
        for (int kite = 0; kite < 16; kite++) {
            k.launch(kite);
        }
        k.passHours(1);
        for (int kite = 0; kite < 16; kite += 2) {
            k.repair(kite);
            k.launch(kite);
        }
        for (int i = 0; i < 30; i++) {
            k.permit(2 * (i % 8), 9 + 10 * (i / 8), 2);
        }
        return k;
    }

    private static void replacedState() {
        Check.sentence(6, "Parses the input buffer as a setup and replaces the state by it.");
        String[] setups = {BARE, "field 11 12 3 4;zone 6 5;colour 2;kite 9 1 9 0 0 9;kite 10 1 9 0 1 0;kite 10 9 5 0 2 999;",
            "field 20 20 0 5;zone 2 5 2 4;zone 6 5;colour 9;colour 0;kite 0 5 9 0 0 9;kite 1 5 9 0 0 9;" + "kite 0 9 9 1 0 9;".repeat(14)};
        for (String text : setups) {
            KitePermits fresh = Check.office(text);
            KitePermits k = full();
            // Neither what was foretold nor a text with an error at its end may leave anything behind.
            k.verdictsIn(100);
            k.verdictsIn(0);
            Check.feed(k, text);
            Check.same("loadSetup", k.loadSetup(), fresh.kiteCount());
            Check.same("the state in place of a full one", Picture.state(k), Picture.state(fresh));
            k.undo();
            Check.feed(k, "field 99 98 7 6;zone 1 1 1 1 1 1 1 1 1 1 1 1;zone 1 1;zone 1 1;zone 1 1;colour 8;colour 8;colour 8;colour 8;kite 5 5 5 3 5 5;kite");
            Check.badArgument("a setup that ends too early", () -> k.loadSetup());
            Check.feed(k, text);
            Check.same("loadSetup", k.loadSetup(), fresh.kiteCount());
            Check.same("the state after a text with an error", Picture.state(k), Picture.state(fresh));
            for (int kite = 0; kite < fresh.kiteCount(); kite++) {
                int index = fresh.kiteCount() - 1 - kite;
                Check.same("launch", Check.outcome(() -> k.launch(index)), Check.outcome(() -> fresh.launch(index)));
            }
            Check.same("passHours", k.passHours(7), fresh.passHours(7));
            Check.same("the state seven hours later", Picture.state(k), Picture.state(fresh));
            String added = Check.outcome(() -> k.addKite(5, 5, 5, 0, 5, 5));
            Check.same("addKite", added, Check.outcome(() -> fresh.addKite(5, 5, 5, 0, 5, 5)));
            Check.same("the state with one kite more, if there is room", Picture.state(k), Picture.state(fresh));
        }
        // A small setup, and the full one again.
        KitePermits k = full();
        String before = Picture.state(k);
        Check.feed(k, BARE);
        k.loadSetup();
        k.undo();
        Check.same("the full state again", Picture.state(k), before);
    }

    private static void executedScripts() {
        Check.sentence(7, "Parses the input buffer as a script and executes it.");
        String text = "field 20 20 0 0;zone 2 9;colour 9;kite 0 5 9 0 4 90;kite 1 5 9 0 4 90;kite 0 9 9 0 0 90;";
        String[] commands = {"launch 2;", "land 2;", "hours 3;", "permit 2 50 7;", "cancel 2;", "tie 2 3;", "repair 0;", "pay 2 77;"};
        for (String first : commands) {
            for (String second : commands) {
                // What the first script has said must not be heard in the second one.
                KitePermits two = Check.office(text);
                KitePermits one = Check.office(text);
                Check.script(two, "launch 0;launch 1;hours 1;");
                Check.script(one, "launch 0;launch 1;hours 1;");
                Check.script(two, first.repeat(20));
                two.undo();
                int due = second.startsWith("land") ? 0 : 1;
                Check.same(second + " after " + first, Check.script(two, second), due);
                Check.same(second + " alone", Check.script(one, second), due);
                Check.same("the state by " + second + " after " + first, Picture.state(two), Picture.state(one));
                Check.same("the setup and the first script are left", two.undo(), 2);
            }
        }
        KitePermits bad = Check.office(text);
        Check.feed(bad, "pay 2 1;".repeat(20) + "pay 2 1;");
        Check.badArgument("21 commands", () -> bad.runScript());
        Check.same("an empty script after 21 commands", bad.runScript(), 0);
        Check.same("no coin", bad.purse(2), 90);
    }

    private static void keptAtSetup() {
        Check.sentence(6, "Snapshots and earlier changes stay.");
        KitePermits k = new KitePermits();
        for (int i = 0; i < 7; i++) {
            k.fund(3, 1);
        }
        k.saveSnapshot(0);
        Check.feed(k, BARE);
        k.loadSetup();
        Check.refused("the other slot is empty", MISSING, k, x -> x.restoreSnapshot(1));
        Check.same("the setup is the eighth change", k.undo(), 7);
        Check.same("seven coins", k.purse(3), 7);
        Check.feed(k, BARE);
        k.loadSetup();
        Check.same("the snapshot is there", k.restoreSnapshot(0), 0);
        Check.same("seven coins", k.purse(3), 7);
        for (int left = 7; left >= 0; left--) {
            Check.same("undo", k.undo(), left);
        }
        Check.same("the first change is too old", k.purse(3), 1);
    }

    private static void emptiedBuffer() {
        Check.sentence(6, "The buffer is empty afterwards, even if an exception is thrown.");
        for (String text : new String[] {BARE, "", "x", " ".repeat(500)}) {
            KitePermits k = new KitePermits();
            Check.feed(k, text);
            Check.outcome(() -> k.loadSetup());
            Check.badArgument("a byte after loadSetup", () -> k.truncate(1));
            Check.feed(k, text);
            Check.outcome(() -> k.runScript());
            Check.badArgument("a byte after runScript", () -> k.truncate(1));
            Check.same("a new row after them", blanks(k), 20);
        }
    }

    private static void numberOfKites() {
        Check.sentence(6, "Returns the number of kites.");
        for (int kites : new int[] {0, 1, 15, 16}) {
            KitePermits k = new KitePermits();
            Check.feed(k, BARE + Texts.KITE.repeat(kites));
            Check.same("loadSetup", k.loadSetup(), kites);
            Check.same("kiteCount", k.kiteCount(), kites);
        }
    }

    private static void numberOfCommands() {
        Check.sentence(7, "Returns the number of commands that were executed.");
        for (int commands = 0; commands <= 20; commands++) {
            Check.same("all commands", Texts.script("hours 1;".repeat(commands), commands).hour(), commands);
            if (commands < 20) {
                Texts.script("hours 1;".repeat(commands) + "land 0;", commands);
                Texts.script("hours 1;".repeat(commands) + "land 0;" + "hours 1;".repeat(19 - commands), commands);
            }
        }
    }

    // ---- promise 8

    private static void indexOfKite() {
        Check.sentence(8, "Returns the index of the kite.");
        KitePermits k = Texts.setup(BARE);
        for (int kite = 0; kite < 16; kite++) {
            Check.same("addKite", k.addKite(0, 0, 1, 0, 0, kite), kite);
            Check.same("its purse", k.purse(kite), kite);
        }
    }

    private static void kiteColour() {
        Check.sentence(8, "Throws `IndexOutOfBoundsException` if the colour does not exist");
        for (int colours : new int[] {1, 2, 6}) {
            String text = Texts.FIELD + Texts.ZONE + Texts.COLOUR.repeat(colours);
            Check.bounds("addKite of colour", 0, colours - 1, INDEX, () -> Check.office(text), (k, colour) -> k.addKite(0, 0, 1, colour, 0, 0));
        }
    }

    private static void kiteArguments() {
        Check.sentence(8, "Throws `IllegalArgumentException` if (x, y) is no point of the field, or length, knots or coins is out of range");
        Check.Maker maker = () -> Check.office("field 13 100 0 0;zone 2 5;colour 9;");
        Check.bounds("x", 0, 12, ARGUMENT, maker, (k, x) -> k.addKite(x, 99, 60, 0, 9, 999));
        Check.bounds("y", 0, 99, ARGUMENT, maker, (k, y) -> k.addKite(12, y, 60, 0, 9, 999));
        Check.bounds("length", 1, 60, ARGUMENT, maker, (k, length) -> k.addKite(12, 99, length, 0, 9, 999));
        Check.bounds("knots", 0, 9, ARGUMENT, maker, (k, knots) -> k.addKite(12, 99, 60, 0, knots, 999));
        Check.bounds("coins", 0, 999, ARGUMENT, maker, (k, coins) -> k.addKite(12, 99, 60, 0, 9, coins));
        Check.refused("outside by both", ARGUMENT, maker.make(), k -> k.addKite(13, 100, 60, 0, 9, 999));
    }

    private static void sixteenKites() {
        Check.sentence(8, "Throws `IllegalStateException` if there are 16 kites");
        KitePermits k = Texts.setup(BARE + Texts.KITE.repeat(15));
        Check.same("the 16th kite", k.addKite(0, 0, 1, 0, 0, 0), 15);
        Check.refused("a 17th kite", STATE, k, x -> x.addKite(0, 0, 1, 0, 0, 0));
        Check.same("the 16th is undone", k.undo(), 1);
        Check.same("and added again", k.addKite(9, 9, 60, 0, 9, 999), 15);
        Check.refused("a 17th kite again", STATE, k, x -> x.addKite(0, 0, 1, 0, 0, 0));
    }

    // ---- promises 9 to 11

    private static void launchedReach() {
        Check.sentence(9, "Returns its reach in the present hour.");
        KitePermits k = Check.office("field 100 20 0 0;zone 2 5 2 1;colour 0;kite 0 0 60 0 0 0;kite 0 5 1 0 0 0;kite 0 9 5 0 0 0;");
        Check.same("the longest string", k.launch(0), 60);
        Check.same("the shortest string", k.launch(1), 1);
        k.passHours(1);
        Check.same("a reach of 1 in hour 1", k.launch(2), 1);
        k.land(2);
        k.passHours(1);
        Check.same("a reach of 5 in hour 2", k.launch(2), 5);
    }

    private static void notLaunched() {
        Check.sentence(9, "Throws `IllegalStateException` if it cannot be launched");
        KitePermits k = Check.office("field 20 20 0 0;zone 2 5 2 0;colour 0;kite 0 0 9 0 0 0;kite 11 5 9 0 0 0;kite 0 9 9 0 9 0;");
        Check.refused("blown out", STATE, k, x -> x.launch(1));
        Check.refused("too many knots", STATE, k, x -> x.launch(2));
        Check.same("launched", k.launch(0), 9);
        Check.refused("launched twice", STATE, k, x -> x.launch(0));
        k.passHours(1);
        Check.refused("an hour without wind", STATE, k, x -> x.launch(0));
        k.tieKnots(2, 4);
        k.passHours(1);
        Check.same("knots untied", k.launch(2), 1);
    }

    private static void flyingAfterLanding() {
        Check.sentence(10, "Returns the number of flying kites afterwards.");
        StringBuilder rows = new StringBuilder(FREE);
        for (int row = 0; row < 16; row++) {
            rows.append("kite 0 ").append(row).append(" 1 0 0 0;");
        }
        KitePermits k = Texts.setup(rows.toString());
        for (int kite = 0; kite < 16; kite++) {
            k.launch(kite);
        }
        for (int kite = 0; kite < 16; kite++) {
            Check.same("land", k.land(kite), 15 - kite);
            Check.same("it becomes grounded", k.stateOf(kite), 0);
        }
    }

    private static void notFlying() {
        Check.sentence(10, "Throws `IllegalStateException` if it is not flying");
        KitePermits k = Check.office(FREE + "kite 0 5 9 0 0 0;kite 1 5 9 0 0 0;kite 0 9 9 0 0 0;");
        Check.refused("a new kite", STATE, k, x -> x.land(0));
        k.launch(0);
        k.launch(1);
        k.launch(2);
        k.passHours(1);
        Check.refused("a tangled kite", STATE, k, x -> x.land(0));
        Check.same("a flying kite", k.land(2), 0);
        Check.refused("a landed kite", STATE, k, x -> x.land(2));
        k.repair(0);
        Check.refused("a repaired kite", STATE, k, x -> x.land(0));
    }

    private static void oneAfterAnother() {
        Check.sentence(11, "Lets hours pass, one after another.");
        String text = "field 40 20 0 3;zone 2 5 2 5 0 5 2 5 6 5;zone 6 5 6 5 4 5 6 1;colour 9;"
                + "kite 10 9 9 0 0 9;kite 29 9 9 0 0 9;kite 5 3 9 0 0 9;kite 15 9 4 0 0 9;kite 25 12 7 0 1 9;";
        for (int count : new int[] {1, 2, 3, 5, 47, 48}) {
            KitePermits whole = Check.office(text);
            KitePermits single = Check.office(text);
            for (int kite = 0; kite < 5; kite++) {
                int index = kite;
                Check.same("launch", Check.outcome(() -> whole.launch(index)), Check.outcome(() -> single.launch(index)));
            }
            whole.permit(2, 0, 2);
            single.permit(2, 0, 2);
            int verdicts = 0;
            for (int i = 0; i < count; i++) {
                verdicts += single.passHours(1);
            }
            Check.same("verdicts in " + count + " hours", whole.passHours(count), verdicts);
            Check.same("the state after " + count + " hours", Picture.state(whole), Picture.state(single));
        }
    }

    private static void countOfHours() {
        Check.sentence(11, "Throws `IllegalArgumentException` if count is out of range");
        Check.bounds("passHours", 1, 48, ARGUMENT, KitePermits::new, (k, count) -> k.passHours(count));
        KitePermits k = new KitePermits();
        k.passHours(48);
        Check.same("48 hours", k.hour(), 48);
        k.passHours(1);
        Check.same("one hour", k.hour(), 49);
    }

    private static void numberOfVerdicts() {
        Check.sentence(11, "Returns the number of verdicts in these hours.");
        KitePermits none = Texts.setup(BARE);
        Check.same("no kites", none.passHours(48), 0);
        KitePermits k = Check.office("field 20 20 0 0;zone 2 1 2 5;colour 9;kite 0 5 5 0 0 0;kite 3 5 5 0 0 0;kite 0 9 5 0 0 0;kite 3 9 5 0 0 0;");
        for (int kite = 0; kite < 4; kite++) {
            k.launch(kite);
        }
        Check.same("both pairs in the first hour", k.passHours(2), 2);
        Check.same("nothing afterwards", k.passHours(48), 0);
        // Kites 2 and 3 meet an hour later than 0 and 1.
        KitePermits two = Check.office("field 20 20 0 0;zone 2 1 2 3 2 5;colour 9;kite 0 5 5 0 0 0;kite 3 5 5 0 0 0;kite 0 9 5 0 0 0;kite 4 9 5 0 0 0;");
        for (int kite = 0; kite < 4; kite++) {
            two.launch(kite);
        }
        Check.same("one in the first hour and one in the second", two.passHours(2), 2);
        Check.same("the second one was in hour 2", two.tangles(2), 1);
    }

    // ---- promises 12 and 13

    private static void permitsAfterwards() {
        Check.sentence(12, "Returns the number of permits afterwards.");
        KitePermits k = Check.office(FREE + "kite 0 5 9 0 0 0;");
        for (int i = 0; i < 30; i++) {
            Check.same("permit " + i, k.permit(0, i, 1), i + 1);
        }
        k.cancelPermits(0);
        Check.same("the first again", k.permit(0, 0, 24), 1);
    }

    private static void permitArguments() {
        Check.sentence(12, "Throws `IllegalArgumentException` if start or duration is out of range");
        Check.bounds("start", 0, 999999, ARGUMENT, () -> Check.office(FREE + "kite 0 5 9 0 0 0;"), (k, start) -> k.permit(0, start, 24));
        Check.bounds("duration", 1, 24, ARGUMENT, () -> Check.office(FREE + "kite 0 5 9 0 0 0;"), (k, duration) -> k.permit(0, 999999, duration));
    }

    private static void permitRefused() {
        Check.sentence(12, "Throws `IllegalStateException` if the permit is refused");
        KitePermits k = Check.office("field 20 20 5 0;zone 2 5 2 0;colour 1;colour 9;kite 0 5 9 0 0 5;kite 0 9 9 0 0 99;kite 1 9 9 1 0 99;");
        Check.refused("7: six coins are the price of no hour", STATE, k, x -> x.permit(0, 0, 2));
        k.permit(1, 0, 1);
        Check.refused("4: the quota", STATE, k, x -> x.permit(0, 0, 1));
        Check.refused("3: twice", STATE, k, x -> x.permit(1, 0, 1));
        Check.refused("5: no wind", STATE, k, x -> x.permit(1, 1, 1));
        Check.refused("6: a string in the way", STATE, k, x -> x.permit(2, 0, 1));
        k.passHours(2);
        Check.refused("1: the past", STATE, k, x -> x.permit(0, 1, 1));
        Check.same("the present", k.permit(0, 2, 1), 1);
        Check.same("all its coins", k.purse(0), 0);
    }

    private static void cancelled() {
        Check.sentence(13, "Returns the number of permits that were cancelled.");
        KitePermits k = Check.office(FREE + "kite 0 5 9 0 0 0;kite 0 7 9 0 0 0;");
        Check.same("none of none", k.cancelPermits(0), 0);
        k.permit(1, 0, 1);
        Check.same("none of one", k.cancelPermits(0), 0);
        Check.same("one of one", k.cancelPermits(1), 1);
        for (int i = 0; i < 30; i++) {
            k.permit(i < 29 ? 0 : 1, i, 1);
        }
        Check.same("one of 30", k.cancelPermits(1), 1);
        Check.same("29 of 29", k.cancelPermits(0), 29);
        for (int i = 0; i < 30; i++) {
            k.permit(0, i, 1);
        }
        Check.same("30 of 30", k.cancelPermits(0), 30);
        Check.same("an empty list", k.permitCount(), 0);
    }

    private static void notPaidBack() {
        Check.sentence(13, "Cancels all permits of a kite. Nothing is paid back.");
        KitePermits k = Check.office("field 20 20 20 0;zone 2 5;colour 9;kite 0 5 9 0 0 480;");
        k.permit(0, 0, 24);
        k.cancelPermits(0);
        Check.same("an empty purse", k.purse(0), 0);
        Check.same("the office", k.officeCoins(), 480);
        Check.same("a new one is too dear", k.whyNotPermit(0, 0, 1), 7);
    }

    // ---- promises 14 to 16

    private static void knotsAndPermits() {
        Check.sentence(14, "All permits of the kite are cancelled, even if the number is the same as before.");
        for (int knots : new int[] {0, 1, 9}) {
            KitePermits k = Check.office(FREE + "kite 0 5 9 0 1 0;kite 0 7 9 0 0 0;");
            for (int i = 0; i < 15; i++) {
                k.permit(0, i, 1);
                k.permit(1, i, 1);
            }
            Check.same("the number before", k.tieKnots(0, knots), 1);
            Check.same("the number now", k.knots(0), knots);
            Check.same("the permits of the other kite stay", k.permitCount(), 15);
            Check.same("the first of them", k.permitKite(0), 1);
            Check.same("the last of them", k.permitStart(14), 14);
        }
    }

    private static void previousKnots() {
        Check.sentence(14, "Returns the previous number of knots.");
        KitePermits k = Check.office(FREE + "kite 0 5 9 0 9 0;");
        int[] numbers = {9, 0, 0, 9, 5, 0};
        int before = 9;
        for (int number : numbers) {
            Check.same("tieKnots", k.tieKnots(0, number), before);
            before = number;
        }
    }

    private static void knotsOutOfRange() {
        Check.sentence(14, "Throws `IllegalArgumentException` if knots is out of range");
        Check.bounds("tieKnots", 0, 9, ARGUMENT, KitePermits::new, (k, knots) -> k.tieKnots(0, knots));
    }

    private static KitePermits twoTangled(int knots, int purse) {
        KitePermits k = Check.office("field 40 20 0 0;zone 2 9;colour 9;kite 0 5 9 0 " + knots + " " + purse + ";kite 1 5 9 0 0 0;kite 0 9 9 0 0 0;kite 0 11 9 0 0 0;");
        k.launch(0);
        k.launch(1);
        k.launch(2);
        k.passHours(1);
        return k;
    }

    private static void knotsOfGrounded() {
        Check.sentence(14, "Throws `IllegalStateException` if it is not grounded");
        KitePermits k = twoTangled(0, 0);
        Check.refused("a tangled kite", STATE, k, x -> x.tieKnots(0, 1));
        Check.refused("a flying kite", STATE, k, x -> x.tieKnots(2, 0));
        k.repair(0);
        k.land(2);
        Check.same("a repaired kite", k.tieKnots(0, 1), 0);
        Check.same("a landed kite", k.tieKnots(2, 9), 0);
        Check.same("a new kite", k.tieKnots(3, 1), 0);
    }

    private static void repairPrice() {
        Check.sentence(15, "Returns the price.");
        for (int knots = 0; knots <= 4; knots++) {
            Check.same("repair with " + knots + " knots", twoTangled(knots, 999).repair(0), 2 * knots);
        }
    }

    private static void repairRefused() {
        Check.sentence(15, "Throws `IllegalStateException` if it is not tangled, or its purse contains less than the price");
        KitePermits k = twoTangled(4, 7);
        Check.refused("a coin too little", STATE, k, x -> x.repair(0));
        Check.refused("a flying kite", STATE, k, x -> x.repair(2));
        Check.refused("a grounded kite", STATE, k, x -> x.repair(3));
        k.fund(0, 1);
        Check.same("just enough", k.repair(0), 8);
        Check.same("nothing is left", k.purse(0), 0);
        Check.refused("repaired twice", STATE, k, x -> x.repair(0));
        Check.same("no knots and no coins", k.repair(1), 0);
    }

    private static void funds() {
        Check.sentence(16, "Puts coins into the purse of a kite, one by one, as long as it contains less than 99999 coins;"
                + " the other ones are not put in.");
        int[][] due = {{98999, 999, 99998}, {99000, 999, 99999}, {99001, 999, 99999}, {99998, 1, 99999}, {99998, 2, 99999}, {99998, 999, 99999},
            {99999, 1, 99999}, {99999, 999, 99999}};
        for (int[] d : due) {
            KitePermits k = new KitePermits();
            while (k.purse(3) < d[0]) {
                k.fund(3, Math.min(999, d[0] - k.purse(3)));
            }
            Check.same("fund " + d[1] + " to " + d[0], k.fund(3, d[1]), d[2]);
            Check.same("purse", k.purse(3), d[2]);
            Check.same("coinError", k.coinError(), 0);
        }
        // By fines, purses get fuller than that.
        KitePermits k = Check.office("field 20 20 0 50;zone 2 5;colour 9;kite 0 5 9 0 0 999;kite 1 5 9 0 0 50;");
        for (int i = 0; i < 100; i++) {
            k.fund(0, 999);
        }
        k.launch(0);
        k.launch(1);
        k.passHours(1);
        Check.same("50 more", k.purse(0), 100049);
        Check.same("none of one", k.fund(0, 1), 100049);
        Check.same("none of 999", k.fund(0, 999), 100049);
        Check.same("coinError", k.coinError(), 0);
    }

    private static void fundedPurse() {
        Check.sentence(16, "Returns the coins in the purse.");
        KitePermits k = new KitePermits();
        Check.same("an empty purse", k.fund(3, 1), 1);
        Check.same("one coin more", k.fund(3, 1), 2);
        Check.same("50 coins and 999", k.fund(0, 999), 1049);
        Check.same("the purse", k.purse(0), 1049);
    }

    private static void fundRange() {
        Check.sentence(16, "Throws `IllegalArgumentException` if coins is out of range");
        Check.bounds("fund", 1, 999, ARGUMENT, KitePermits::new, (k, coins) -> k.fund(3, coins));
        Check.same("one coin", new KitePermits().fund(3, 1), 1);
        Check.same("999 coins", new KitePermits().fund(3, 999), 999);
    }

    // ---- promises 17 to 19

    private static void latestChange() {
        Check.sentence(17, "Undoes the latest change that was not undone yet. This method is not undoable itself.");
        KitePermits k = new KitePermits();
        k.fund(3, 1);
        k.fund(3, 10);
        k.fund(3, 100);
        k.undo();
        Check.same("the third is undone", k.purse(3), 11);
        k.undo();
        Check.same("the second is undone, not the undoing", k.purse(3), 1);
        k.fund(3, 200);
        k.undo();
        Check.same("the fourth is undone", k.purse(3), 1);
        k.undo();
        Check.same("the first is undone", k.purse(3), 0);
        Check.refused("nothing is left", MISSING, k, x -> x.undo());
    }

    private static void changesLeft() {
        Check.sentence(17, "Returns the number of changes that can still be undone.");
        KitePermits k = new KitePermits();
        for (int made = 1; made <= 12; made++) {
            k.fund(3, 1);
            Check.same("undo after " + made, k.undo(), Math.min(made - 1, 7));
            k.fund(3, 1);
        }
    }

    private static void nothingToUndo() {
        Check.sentence(17, "Throws `NoSuchElementException` if no change can be undone");
        KitePermits k = new KitePermits();
        Check.refused("a new object", MISSING, k, x -> x.undo());
        k.saveSnapshot(0);
        Check.refused("after a snapshot", MISSING, k, x -> x.undo());
        Check.refused("after a refused change", ARGUMENT, k, x -> x.passHours(0));
        Check.refused("after a refused change", MISSING, k, x -> x.undo());
        blanks(k);
        k.truncate(0);
        k.writePermits();
        Check.refused("after input and output", MISSING, k, x -> x.undo());
        k.passHours(1);
        Check.same("after a change", k.undo(), 0);
        Check.refused("after its undoing", MISSING, k, x -> x.undo());
    }

    private static void newerSnapshot() {
        Check.sentence(18, "Saves a snapshot of the state, in place of an earlier one in the same slot. This method is not undoable.");
        KitePermits k = new KitePermits();
        k.saveSnapshot(0);
        k.passHours(1);
        k.saveSnapshot(1);
        k.passHours(1);
        k.saveSnapshot(0);
        k.passHours(1);
        Check.same("only the hours can be undone", k.undo(), 2);
        k.passHours(1);
        Check.same("the newer one in slot 0", k.restoreSnapshot(0), 2);
        Check.same("the one in slot 1", k.restoreSnapshot(1), 1);
        Check.same("the newer one is still there", k.restoreSnapshot(0), 2);
    }

    private static void slots() {
        Check.sentence(18, "Throws `IllegalArgumentException` if slot is out of range");
        Check.bounds("saveSnapshot", 0, 1, ARGUMENT, KitePermits::new, (k, slot) -> {
            k.saveSnapshot(slot);
            return 0;
        });
        Check.bounds("restoreSnapshot", 0, 1, ARGUMENT, () -> {
            KitePermits k = new KitePermits();
            k.saveSnapshot(0);
            k.saveSnapshot(1);
            return k;
        }, (k, slot) -> k.restoreSnapshot(slot));
    }

    private static void snapshotStays() {
        Check.sentence(19, "Restores the snapshot in a slot. The snapshot stays there. This method is undoable.");
        KitePermits k = new KitePermits();
        k.permit(0, 3, 2);
        String saved = Picture.state(k);
        k.saveSnapshot(1);
        for (int time = 0; time < 10; time++) {
            k.passHours(7);
            k.cancelPermits(0);
            String before = Picture.state(k);
            k.restoreSnapshot(1);
            Check.same("the snapshot, time " + time, Picture.state(k), saved);
            Check.same("undo, time " + time, k.undo(), Math.min(3 * time + 3, 7));
            Check.same("as before, time " + time, Picture.state(k), before);
            k.restoreSnapshot(1);
        }
    }

    private static void restoredHour() {
        Check.sentence(19, "Returns the present hour of the restored state.");
        KitePermits k = new KitePermits();
        k.saveSnapshot(0);
        k.passHours(48);
        k.saveSnapshot(1);
        k.passHours(1);
        Check.same("hour 0", k.restoreSnapshot(0), 0);
        Check.same("hour 48", k.restoreSnapshot(1), 48);
        Check.same("hour", k.hour(), 48);
    }

    private static void emptySlot() {
        Check.sentence(19, "Throws `NoSuchElementException` if the slot is empty");
        for (int slot = 0; slot < 2; slot++) {
            int full = slot;
            int empty = 1 - slot;
            KitePermits k = new KitePermits();
            Check.refused("restoreSnapshot", MISSING, k, x -> x.restoreSnapshot(full));
            k.saveSnapshot(full);
            Check.refused("restoreSnapshot of the other slot", MISSING, k, x -> x.restoreSnapshot(empty));
            Check.same("restoreSnapshot of the full slot", k.restoreSnapshot(full), 0);
            k.undo();
            Check.same("undoing does not empty it", k.restoreSnapshot(full), 0);
        }
    }

    public static void main(String[] args) {
        newOffice();
        newUndo();
        fourBytes();
        newLength();
        fullBuffer();
        firstBytes();
        truncatedLength();
        truncateRange();
        codes();
        positions();
        replacedState();
        executedScripts();
        keptAtSetup();
        emptiedBuffer();
        numberOfKites();
        numberOfCommands();
        indexOfKite();
        kiteColour();
        kiteArguments();
        sixteenKites();
        launchedReach();
        notLaunched();
        flyingAfterLanding();
        notFlying();
        oneAfterAnother();
        countOfHours();
        numberOfVerdicts();
        permitsAfterwards();
        permitArguments();
        permitRefused();
        cancelled();
        notPaidBack();
        knotsAndPermits();
        previousKnots();
        knotsOutOfRange();
        knotsOfGrounded();
        repairPrice();
        repairRefused();
        funds();
        fundedPurse();
        fundRange();
        latestChange();
        changesLeft();
        nothingToUndo();
        newerSnapshot();
        slots();
        snapshotStays();
        restoredHour();
        emptySlot();
        Check.finish("ChangeCallsBoundsTest");
    }
}
