/** The section "Terms", "Texts" to the execution of scripts: each sentence that names a boundary case. */
final class TextsBoundsTest {
    private static final int S = KitePermits.SYNTAX;
    private static final int R = KitePermits.RANGE;
    private static final int L = KitePermits.LIMIT;
    private static final String BARE = Texts.FIELD + Texts.ZONE + Texts.COLOUR;
    private static final String[] COMMANDS = {"launch 0", "land 0", "hours 1", "permit 0 0 1", "cancel 0", "tie 0 0", "repair 0", "pay 0 1"};

    private TextsBoundsTest() {
    }

    // ---- tokens

    private static void everyByte() {
        Check.sentence("The input buffer holds bytes.");
        for (int code = 0; code < 256; code++) {
            KitePermits k = new KitePermits();
            Check.feed(k, "hours 1;" + (char) code);
            boolean isTaken = code == ' ';
            Check.same("a script that ends with byte " + code, Check.outcome(() -> k.runScript()), isTaken ? "1" : "throws IllegalArgumentException");
            Check.same("errorCode of byte " + code, k.errorCode(), isTaken ? 0 : S);
            Check.same("errorPosition of byte " + code, k.errorPosition(), isTaken ? KitePermits.NONE : 8);
        }
    }

    private static void tokens() {
        Check.sentence("A token is a word (a maximal run of the letters a to z), a number (a maximal run of the digits 0 to 9,"
                + " of any length, leading zeros allowed), or a semicolon.");
        for (int code = 0; code < 256; code++) {
            String text = "hours" + (char) code + ";";
            boolean isLetter = code >= 'a' && code <= 'z';
            if (code >= '1' && code <= '9') {
                Check.same("hours" + (char) code, Texts.script(text, 1).hour(), code - '0');
            } else if (code == '0') {
                Texts.badScript(text, R, 5);
            } else {
                // A letter makes the word a longer one; after a space, the semicolon comes too early.
                Texts.badScript(text, S, isLetter ? 0 : code == ' ' ? 6 : 5);
            }
        }
        for (int code = 0; code < 256; code++) {
            String text = "hours 1" + (char) code;
            if (code >= '0' && code <= '9') {
                // 10 to 19, but no semicolon
                Texts.badScript(text, S, 8);
            } else if (code == ';') {
                Texts.script(text, 1);
            } else {
                Texts.badScript(text, S, code == ' ' ? 8 : 7);
            }
        }
        Texts.badScript("hour s 1;", S, 0);
        Texts.badScript("hours 4 8;", S, 8);
        Texts.badScript("launchland", S, 0);
        Texts.badScript("hoursHours", S, 5);
        Texts.badScript("HOURS 1;", S, 0);
        Texts.badScript("a".repeat(500), S, 0);
        Texts.badScript("z;", S, 0);
        Texts.badScript("hours " + "0".repeat(493) + "1", S, 500);
        Check.same("a script of 500 bytes", Texts.script("hours " + "0".repeat(492) + "1;", 1).hour(), 1);
        Check.same("481 zeros", Texts.script("hours " + "0".repeat(481) + "48;", 1).hour(), 48);
        Texts.badScript("hours " + "0".repeat(481) + "49;", R, 6);
        Texts.badScript("hours " + "0".repeat(481) + ";", R, 6);
        Texts.badScript("hours " + "9".repeat(494), R, 6);
        for (String wrapped : new String[] {"4294967297", "18446744073709551617", "2147483648", "9223372036854775809", "1000001", "256", "65537"}) {
            Texts.badScript("hours " + wrapped + ";", R, 6);
        }
        Check.same("seven digits", Texts.script("permit 0 0999999 1;", 1).permitStart(0), 999999);
        Texts.badScript("permit 0 1000000 1;", R, 9);
        Texts.badScript(";", S, 0);
        Texts.badScript("hours 1;;", S, 8);
        Texts.script("hours 1;hours 2;", 2);
    }

    private static void spaces() {
        Check.sentence("Spaces (byte 32) may stand before, between and after tokens and have no other meaning.");
        Check.same("before, between and after", Texts.script("   hours   5   ;   hours   6   ;   ", 2).hour(), 11);
        Check.same("nowhere", Texts.script("hours5;hours6;", 2).hour(), 11);
        Check.same("nothing but spaces", Texts.script(" ".repeat(500), 0).hour(), 0);
        Check.same("up to the end of a full buffer", Texts.script("hours 5;" + " ".repeat(492), 1).hour(), 5);
        Check.same("before the end of a full buffer", Texts.script(" ".repeat(492) + "hours 5;", 1).hour(), 5);
        for (char other : new char[] {9, 10, 13, 0, 31, 33, 160}) {
            Texts.badScript("hours 5;" + other + "hours 6;", S, 8);
            Texts.badScript(other + "hours 5;", S, 0);
        }
        Texts.setup("  field  10  10  0  0  ;  zone  0  0  ;  colour  0  ;  kite  0  0  1  0  0  0  ;  ");
        Check.same("a setup without spaces", Texts.setup("field10 10 0 0;zone0 0;colour0;kite0 0 1 0 0 7;").purse(0), 7);
    }

    private static void noSpaceNeeded() {
        Check.sentence("A word and a number need no space between them.");
        Check.same("a word before a number", Texts.script("permit0 3 2;launch0;", 2).permitStart(0), 3);
        Texts.badScript("hours 1hours 1;", S, 7);
        Texts.badScript("1hours 1;", S, 0);
        Texts.badSetup("field 10 10 0 0zone 0 0;", S, 15);
        Texts.badSetup("field 10 10 0 0;zone 0 0colour 0;", S, 24);
    }

    private static void wrongLetters() {
        Check.sentence("A token is a word (a maximal run of the letters a to z), a number (a maximal run of the digits 0 to 9,"
                + " of any length, leading zeros allowed), or a semicolon.");
        for (String command : COMMANDS) {
            int length = command.indexOf(' ');
            for (int place = 0; place < length; place++) {
                Texts.badScript(command.substring(0, place) + 'q' + command.substring(place + 1) + ";", S, 0);
                Texts.badScript(command.substring(0, place) + command.substring(place + 1) + ";", S, 0);
                Texts.badScript(command.substring(0, place) + 'q' + command.substring(place) + ";", S, 0);
                Texts.badScript(command.substring(0, place) + (char) (command.charAt(place) - 32) + command.substring(place + 1) + ";", S, 0);
            }
        }
        String setup = BARE + Texts.KITE;
        for (String word : new String[] {"field", "zone", "colour", "kite"}) {
            int at = setup.indexOf(word);
            for (int place = at; place < at + word.length(); place++) {
                Texts.badSetup(setup.substring(0, place) + 'q' + setup.substring(place + 1), S, at);
                Texts.badSetup(setup.substring(0, place) + setup.substring(place + 1), S, at);
                Texts.badSetup(setup.substring(0, place) + 'q' + setup.substring(place), S, at);
            }
        }
    }

    // ---- grammar

    private static void setupGrammar() {
        Check.sentence("setup   = \"field\" WIDTH HEIGHT FEE FINE \";\" ZONE \";\" { ZONE \";\" } COLOUR \";\" { COLOUR \";\" } { KITE \";\" }");
        Texts.badSetup("", S, 0);
        Texts.badSetup(Texts.ZONE + Texts.COLOUR, S, 0);
        Texts.badSetup(Texts.FIELD, S, 16);
        Texts.badSetup(Texts.FIELD + Texts.FIELD, S, 16);
        Texts.badSetup(Texts.FIELD + Texts.COLOUR, S, 16);
        Texts.badSetup(Texts.FIELD + Texts.ZONE, S, 25);
        Texts.badSetup(Texts.FIELD + Texts.ZONE + Texts.KITE, S, 25);
        Texts.setup(BARE);
        Texts.setup(BARE + Texts.KITE);
        Texts.badSetup(BARE + Texts.ZONE, S, 34);
        Texts.badSetup(BARE + Texts.FIELD, S, 34);
        Texts.badSetup(BARE + ";", S, 34);
        Texts.badSetup(BARE + "0", S, 34);
        Texts.badSetup(BARE + Texts.KITE + Texts.COLOUR, S, 51);
        Texts.badSetup(BARE + Texts.KITE + Texts.ZONE, S, 51);
        Texts.badSetup(BARE + Texts.KITE + ";", S, 51);
        Texts.badSetup(BARE + Texts.KITE + "hours 1;", S, 51);
        String[] numbers = {"field 10 10 0 0;", "zone 0 0;", "colour 0;", "kite 0 0 1 0 0 0;"};
        String before = "";
        for (String item : numbers) {
            // One number too few and one too many, and each semicolon is needed.
            int last = item.length() - 3;
            int end = before.length() + item.length();
            Texts.badSetup(before + item.substring(0, last) + ";", S, before.length() + last);
            // A third number of a zone is the direction of a second wind.
            Texts.badSetup(before + item.substring(0, last + 2) + " 0;", S, item.startsWith("zone") ? end + 1 : end);
            Texts.badSetup(before + item.substring(0, last + 2), S, end - 1);
            before += item;
        }
    }

    private static void zoneGrammar() {
        Check.sentence("ZONE    = \"zone\" DIRECTION FORCE { DIRECTION FORCE }");
        Texts.badSetup(Texts.FIELD + "zone;", S, 20);
        Texts.badSetup(Texts.FIELD + "zone 0;", S, 22);
        Texts.setup(Texts.FIELD + "zone 0 0;" + Texts.COLOUR);
        Texts.badSetup(Texts.FIELD + "zone 0 0 0;", S, 26);
        Texts.setup(Texts.FIELD + "zone 0 0 0 0;" + Texts.COLOUR);
        Texts.badSetup(Texts.FIELD + "zone 0 0 0 0 0 0 0 0 0 0 0;", S, 42);
        Texts.badSetup(Texts.FIELD + "zone 0 0 x;", S, 25);
    }

    private static void colourGrammar() {
        Check.sentence("COLOUR  = \"colour\" QUOTA");
        Texts.badSetup(Texts.FIELD + Texts.ZONE + "colour;", S, 31);
        Texts.badSetup(Texts.FIELD + Texts.ZONE + "colour 0 0;", S, 34);
        Texts.badSetup(Texts.FIELD + Texts.ZONE + "colour x;", S, 32);
    }

    private static void kiteGrammar() {
        Check.sentence("KITE    = \"kite\" X Y STRING COLOURNUMBER KNOTS PURSE");
        Texts.badSetup(BARE + "kite;", S, 38);
        Texts.badSetup(BARE + "kite 0;", S, 40);
        Texts.badSetup(BARE + "kite 0 0;", S, 42);
        Texts.badSetup(BARE + "kite 0 0 1;", S, 44);
        Texts.badSetup(BARE + "kite 0 0 1 0;", S, 46);
        Texts.badSetup(BARE + "kite 0 0 1 0 0;", S, 48);
        KitePermits k = Texts.setup("field 10 20 0 0;zone 0 0;colour 0;colour 0;kite 9 19 60 1 8 777;");
        int[] got = {k.anchorX(0), k.anchorY(0), k.stringLength(0), k.colourOf(0), k.knots(0), k.purse(0)};
        int[] due = {9, 19, 60, 1, 8, 777};
        for (int i = 0; i < 6; i++) {
            Check.same("number " + i + " of the kite", got[i], due[i]);
        }
        Texts.badSetup(BARE + "kite 0 0 1 0 0 0 0;", S, 51);
    }

    private static void scriptGrammar() {
        Check.sentence("script  = { command \";\" }");
        Texts.script("", 0);
        for (String command : COMMANDS) {
            Texts.script(command + ";", command.startsWith("land") || command.startsWith("repair") ? 0 : 1);
            Texts.badScript(command, S, command.length());
            Texts.badScript(command + ";" + command, S, 2 * command.length() + 1);
            Texts.badScript(command + " " + command + ";", S, command.length() + 1);
            Texts.badScript(";" + command + ";", S, 0);
        }
        Texts.badScript("fly 0;", S, 0);
        Texts.badScript("undo;", S, 0);
        Texts.badScript(BARE, S, 0);
    }

    private static void commandGrammar() {
        Check.sentence("command = \"launch\" KITENUMBER | \"land\" KITENUMBER | \"hours\" COUNT | \"permit\" KITENUMBER START DURATION |"
                + " \"cancel\" KITENUMBER | \"tie\" KITENUMBER KNOTS | \"repair\" KITENUMBER | \"pay\" KITENUMBER COINS");
        for (String command : COMMANDS) {
            String[] parts = command.split(" ");
            String text = parts[0];
            for (int i = 1; i < parts.length; i++) {
                Texts.badScript(text + ";", S, text.length());
                Texts.badScript(text + " x;", S, text.length() + 1);
                Texts.badScript(text, S, text.length());
                text += " " + parts[i];
            }
            Texts.badScript(text + " 0;", S, text.length() + 1);
            Texts.badScript(parts[0] + "s" + text.substring(parts[0].length()) + ";", S, 0);
            Texts.badScript(text.substring(1) + ";", S, 0);
        }
    }

    private static void ranges() {
        Check.sentence("WIDTH, HEIGHT, FEE, FINE, DIRECTION, FORCE, QUOTA, KNOTS, START and DURATION have the ranges given above.");
        Texts.setupNumber("field ", 10, 100, " 10 0 0;zone 0 0;colour 0;");
        Texts.setupNumber("field 10 ", 10, 100, " 0 0;zone 0 0;colour 0;");
        Texts.setupNumber("field 10 10 ", 0, 20, " 0;zone 0 0;colour 0;");
        Texts.setupNumber("field 10 10 0 ", 0, 50, ";zone 0 0;colour 0;");
        Texts.setupNumber("field 10 10 0 0;zone ", 0, 7, " 0;colour 0;");
        Texts.setupNumber("field 10 10 0 0;zone 0 ", 0, 9, ";colour 0;");
        Texts.setupNumber("field 10 10 0 0;zone 0 0;colour ", 0, 9, ";");
        Texts.setupNumber(BARE + "kite 0 0 1 0 ", 0, 9, " 0;");
        Texts.scriptNumber("tie 0 ", 0, 9, ";");
        Texts.scriptNumber("permit 0 ", 0, 999999, " 1;");
        Texts.scriptNumber("permit 0 0 ", 1, 24, ";");
        Check.same("knots of a script", Texts.script("tie 0 9;", 1).knots(0), 9);
        Check.same("duration of a script", Texts.script("permit 0 999999 24;", 1).permitDuration(0), 24);
    }

    private static void moreRanges() {
        Check.sentence("X is 0 to WIDTH - 1, Y 0 to HEIGHT - 1, STRING 1 to 60, COLOURNUMBER the number of a colour, PURSE 0 to 999,"
                + " COUNT 1 to 48, COINS 1 to 999, and KITENUMBER 0 to 15.");
        String wide = "field 100 10 0 0;" + Texts.ZONE + Texts.COLOUR.repeat(6);
        Texts.setupNumber(wide + "kite ", 0, 99, " 9 1 0 0 0;");
        Texts.setupNumber(wide + "kite 99 ", 0, 9, " 1 0 0 0;");
        Texts.setupNumber(wide + "kite 0 0 ", 1, 60, " 0 0 0;");
        Texts.setupNumber(wide + "kite 0 0 1 ", 0, 5, " 0 0;");
        Texts.setupNumber(wide + "kite 0 0 1 0 0 ", 0, 999, ";");
        Texts.setupNumber("field 10 100 0 0;" + Texts.ZONE + Texts.COLOUR + "kite 9 ", 0, 99, " 1 0 0 0;");
        Texts.scriptNumber("hours ", 1, 48, ";");
        Texts.scriptNumber("pay 0 ", 1, 999, ";");
        for (String word : new String[] {"launch ", "land ", "cancel ", "repair "}) {
            Texts.scriptNumber(word, 0, 15, ";");
        }
        Texts.scriptNumber("permit ", 0, 15, " 0 1;");
        Texts.scriptNumber("tie ", 0, 15, " 0;");
        Texts.scriptNumber("pay ", 0, 15, " 1;");
        Check.same("48 hours", Texts.script("hours 48;", 1).hour(), 48);
        Check.same("999 coins", Texts.script("pay 3 999;", 1).purse(3), 999);
    }

    // ---- errors

    private static void firstError() {
        Check.sentence("The parser reads the text from left to right and stops at the first token with an error.");
        Texts.badScript("hours 0;hours x;", R, 6);
        Texts.badScript("hours x;hours 0;", S, 6);
        Texts.badScript("hours 1;hours 49;?", R, 14);
        Texts.badScript("hours 1;?hours 49;", S, 8);
        Texts.badSetup("field 9 x 0 0;", R, 6);
        Texts.badSetup("field 10 x 21 0;", S, 9);
        Texts.badSetup(Texts.FIELD + Texts.ZONE.repeat(4) + "zone 8 10", L, 52);
        Texts.badSetup(Texts.FIELD + Texts.ZONE.repeat(3) + "zone 8 10;" + Texts.ZONE, R, 48);
        Texts.badScript("hours 1;".repeat(20) + "hours 0;", L, 160);
        Texts.badScript("hours 1;".repeat(19) + "hours 0;hours 1;", R, 158);
        Texts.badSetup(BARE + "kite 10 10 0 1 10 1000;", R, 39);
        Texts.badSetup(BARE + Texts.KITE + "kite 0 0 1 0 0 1000", R, 66);
    }

    private static void firstByte() {
        Check.sentence("The error position is the index of the first byte of that token.");
        Texts.badScript("x", S, 0);
        Texts.badScript("hoursx 1;", S, 0);
        Texts.badScript("    hoursx 1;", S, 4);
        Texts.badScript("hours 0000000;", R, 6);
        Texts.badScript("hours     0049;", R, 10);
        Texts.badScript("hours 1    x", S, 11);
        Texts.badScript(" ".repeat(499) + "x", S, 499);
        Texts.badScript("hours 1;" + " ".repeat(484) + "hours 49", R, 498);
        Texts.badSetup("   fields", S, 3);
        Texts.badSetup("field 10 10 0 0;   zones", S, 19);
    }

    private static void earlyEnd() {
        Check.sentence("If the text ends too early, the position is the length of the text.");
        Texts.badSetup("", S, 0);
        Texts.badSetup(" ", S, 1);
        Texts.badSetup(" ".repeat(500), S, 500);
        int[] ends = {5, 8, 11, 13, 15, 16, 20, 22, 24, 25, 31, 33, 38, 40, 42, 44, 46, 48, 50};
        String text = BARE + Texts.KITE;
        for (int end : ends) {
            Texts.badSetup(text.substring(0, end), S, end);
            Texts.badSetup(text.substring(0, end) + "    ", S, end + 4);
        }
        int[] scriptEnds = {6, 8, 15, 17, 19, 21};
        for (int end : scriptEnds) {
            Texts.badScript("launch 0;permit 0 1 2;".substring(0, end), S, end);
            Texts.badScript("launch 0;permit 0 1 2;".substring(0, end) + "   ", S, end + 3);
        }
        Texts.badScript("hours" + " ".repeat(495), S, 500);
    }

    private static void smallestCode() {
        Check.sentence("If several errors apply to one token, the one with the smallest code is reported.");
        String winds = Texts.FIELD + "zone 0 0 1 1 2 2 3 3 4 4 5 5 ";
        Texts.badSetup(winds + "7 0;" + Texts.COLOUR, L, 45);
        Texts.badSetup(winds + "8 0;" + Texts.COLOUR, R, 45);
        Texts.badSetup(winds + "x;" + Texts.COLOUR, S, 45);
        String twenty = "hours 1;".repeat(20);
        Texts.badScript(twenty + "hours", L, 160);
        Texts.badScript(twenty + "hour", S, 160);
        Texts.badScript(twenty + "48", S, 160);
        Texts.badScript("hours 1;99", S, 8);
        Texts.badSetup("field 10 10 0 0;99 0 0;", S, 16);
    }

    private static void syntaxErrors() {
        Check.sentence("SYNTAX: a token that the grammar does not allow at this place, a byte that belongs to no token,"
                + " or the end of the text at a place where it must not end.");
        Texts.badScript("1", S, 0);
        Texts.badScript("hours hours", S, 6);
        Texts.badScript("hours ;", S, 6);
        Texts.badScript("hours 1 1", S, 8);
        Texts.badScript("hours-1;", S, 5);
        Texts.badScript("hours 1:", S, 7);
        Texts.badScript("hours 1,hours 1;", S, 7);
        Texts.badScript("hours", S, 5);
        Texts.badScript("hours 1", S, 7);
        Texts.badSetup("field 10 10 0 0:", S, 15);
        Texts.badSetup(BARE.substring(0, 33), S, 33);
        KitePermits k = new KitePermits();
        Check.feed(k, "x");
        Check.badArgument("a word", () -> k.runScript());
        Check.same("the code", k.errorCode(), 1);
    }

    private static void rangeErrors() {
        Check.sentence("RANGE: a number outside its range.");
        Texts.badScript("hours 49;", R, 6);
        Texts.badScript("hours 0;", R, 6);
        Texts.badScript("hours 49", R, 6);
        Texts.badSetup("field 101", R, 6);
        KitePermits k = new KitePermits();
        Check.feed(k, "hours 0");
        Check.badArgument("no hours", () -> k.runScript());
        Check.same("the code", k.errorCode(), 2);
    }

    private static void limitErrors() {
        Check.sentence("LIMIT: the word \"zone\" of a 5th zone, \"colour\" of a 7th colour, \"kite\" of a 17th kite; the DIRECTION of a"
                + " 7th wind of a zone, if it is a number; the first word of a 21st command.");
        String zones = Texts.FIELD + Texts.ZONE.repeat(4);
        Texts.setup(zones + Texts.COLOUR);
        Texts.badSetup(zones + "zone", L, 52);
        Texts.badSetup(zones + "   zone 0 0;", L, 55);
        Texts.badSetup(zones + "zon", S, 52);
        String colours = Texts.FIELD + Texts.ZONE + Texts.COLOUR.repeat(6);
        Texts.setup(colours);
        Texts.badSetup(colours + "colour", L, 79);
        Texts.badSetup(colours + "colours", S, 79);
        Texts.badSetup(colours + Texts.KITE + "colour", S, 96);
        String kites = BARE + Texts.KITE.repeat(16);
        Texts.setup(kites);
        Texts.badSetup(kites + "kite", L, 306);
        Texts.badSetup(kites + "kit", S, 306);
        String winds = Texts.FIELD + "zone 0 0 1 1 2 2 3 3 4 4 5 5";
        Texts.setup(winds + ";" + Texts.COLOUR);
        Texts.badSetup(winds + " 0", L, 45);
        Texts.badSetup(winds + " 0;", L, 45);
        Texts.badSetup(winds + " 6 6 7 7;", L, 45);
        Texts.badSetup(winds, S, 44);
        Texts.badSetup(winds + "zone", S, 44);
        for (String command : COMMANDS) {
            String twenty = "pay 0 1;".repeat(20);
            Texts.badScript(twenty + command + ";", L, 160);
            Texts.badScript(twenty + command.split(" ")[0], L, 160);
        }
        Texts.script("pay 0 1;".repeat(20), 20);
        Texts.script("pay 0 1;".repeat(20) + "    ", 20);
        Texts.badScript("pay 0 1;".repeat(20) + ";", S, 160);
        KitePermits k = new KitePermits();
        Check.feed(k, "pay 0 1;".repeat(21));
        Check.badArgument("21 commands", () -> k.runScript());
        Check.same("the code", k.errorCode(), 3);
    }

    // ---- execution

    private static void commandByCommand() {
        Check.sentence("A script without an error is executed command by command.");
        Check.same("none", Texts.script("", 0).hour(), 0);
        Check.same("one", Texts.script("hours 1;", 1).hour(), 1);
        KitePermits k = Texts.script("pay 3 4;permit 3 1 2;cancel 3;tie 3 1;launch 3;land 3;", 6);
        Check.same("the permit was paid from the coins before", k.purse(3), 0);
        Check.same("and cancelled after it", k.permitCount(), 0);
        Check.same("knots", k.knots(3), 1);
        StringBuilder twenty = new StringBuilder();
        for (int i = 0; i < 10; i++) {
            twenty.append("launch 0;land 0;");
        }
        Check.same("launched and landed ten times", Texts.script(twenty.toString(), 20).stateOf(0), 0);
    }

    private static void likeMethods() {
        Check.sentence("The commands work like the methods launch, land, passHours, permit, cancelPermits, tieKnots, repair and fund.");
        String[] scripts = {"launch 0;", "land 1;", "hours 1;", "hours 48;", "permit 0 1 24;", "cancel 1;", "cancel 0;", "tie 0 0;", "tie 0 9;",
            "repair 2;", "pay 0 999;", "pay 3 1;"};
        Check.Use[] methods = {k -> k.launch(0), k -> k.land(1), k -> k.passHours(1), k -> k.passHours(48), k -> k.permit(0, 1, 24),
            k -> k.cancelPermits(1), k -> k.cancelPermits(0), k -> k.tieKnots(0, 0), k -> k.tieKnots(0, 9), k -> k.repair(2),
            k -> k.fund(0, 999), k -> k.fund(3, 1)};
        for (int i = 0; i < scripts.length; i++) {
            KitePermits x = busy();
            KitePermits y = busy();
            Texts.script(x, scripts[i], 1);
            methods[i].of(y);
            Check.same("the state after " + scripts[i], Picture.state(x), Picture.state(y));
            Check.same("the state is another one than before " + scripts[i],
                    Picture.state(x).equals(Picture.state(busy())), scripts[i].equals("cancel 0;") || scripts[i].equals("tie 0 0;"));
        }
    }

    /** Kite 0 is grounded, 1 is flying and has a permit, 2 and 3 are tangled, 4 cannot fly. */
    private static KitePermits busy() {
        KitePermits k = Check.office("field 30 20 1 10;zone 2 9;colour 2;kite 0 1 9 0 0 50;kite 0 3 9 0 0 40;kite 0 5 9 0 4 19;kite 1 5 9 0 5 9;kite 25 7 9 0 0 9;");
        k.launch(2);
        k.launch(3);
        k.launch(1);
        k.passHours(1);
        k.permit(1, 1, 3);
        return k;
    }

    private static void endOfExecution() {
        Check.sentence("Execution ends before the first command for which that method would throw an exception.");
        String[] refused = {"launch 5;", "launch 1;", "launch 2;", "launch 4;", "land 5;", "land 0;", "land 2;", "permit 5 1 1;", "permit 0 0 1;",
            "permit 1 3 1;", "permit 4 1 1;", "permit 3 2 24;", "permit 3 1 1;", "cancel 5;", "tie 5 0;", "tie 1 0;", "tie 2 0;", "repair 5;",
            "repair 0;", "repair 1;", "pay 5 1;", "pay 15 999;"};
        for (String command : refused) {
            KitePermits k = busy();
            String before = Picture.state(k);
            Texts.script(k, command, 0);
            Check.same("nothing is changed by " + command, Picture.state(k), before);
            Texts.script(k, command + "pay 0 1;", 0);
            Check.same("what follows is not executed after " + command, Picture.state(k), before);
            Texts.script(k, "pay 0 1;pay 0 1;" + command + "pay 0 1;", 2);
            Check.same("what comes before is executed before " + command, k.purse(0), 52);
            Texts.script(k, "pay 0 1;".repeat(19) + command, 19);
            Check.same("19 coins before " + command, k.purse(0), 71);
        }
        KitePermits late = busy();
        Texts.script(late, "permit 0 1 1;hours 1;permit 0 1 1;", 2);
        Texts.script(late, "land 1;land 1;", 1);
        Texts.script(late, "cancel 0;cancel 1;cancel 4;cancel 5;", 3);
        KitePermits repaired = busy();
        // Kite 3 was launched later than kite 2 and has paid its 9 coins; its repair costs 10.
        Check.same("the guilty kite is poor", repaired.purse(3), 0);
        Texts.script(repaired, "repair 2;repair 3;", 1);
        Texts.script(repaired, "pay 3 9;repair 3;", 1);
        Texts.script(repaired, "pay 3 1;repair 3;repair 3;", 2);
    }

    public static void main(String[] args) {
        everyByte();
        tokens();
        spaces();
        noSpaceNeeded();
        wrongLetters();
        setupGrammar();
        zoneGrammar();
        colourGrammar();
        kiteGrammar();
        scriptGrammar();
        commandGrammar();
        ranges();
        moreRanges();
        firstError();
        firstByte();
        earlyEnd();
        smallestCode();
        syntaxErrors();
        rangeErrors();
        limitErrors();
        commandByCommand();
        likeMethods();
        endOfExecution();
        Check.finish("TextsBoundsTest");
    }
}
