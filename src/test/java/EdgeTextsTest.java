/** The edges of configurations and command texts: a test for each sentence. */
public final class EdgeTextsTest {
    private static final Check CHECK = new Check("EdgeTextsTest");
    private static final String HEAD = "fair 5;fog 2;";
    private static final String ECHO = "echo a 1 1 1 0;";
    private static final String VALLEY = "valley b 1 1 1 0;";
    private static final String WHOLE = HEAD + ECHO + VALLEY;
    private static final String SIGNS = "`{@[AZ/:<!\u001f\t\n-.\u0000\u007f\u0080\u00e1\u00ff";

    public static void main(String[] args) {
        all(Edges.running(CHECK));
        CHECK.finish();
    }

    static void all(Edges edges) {
        edges.section("Terms");
        configurations(edges);
        errors(edges);
        commands(edges);
        edges.section("Promise 4");
        edges.holds("On success the configuration replaces everything: the day is 0, there are no"
            + " contracts and no desertions, all counters are 0, and nothing can be undone.",
            EdgeTextsTest::loadReplacesEverything);
        edges.holds("The input buffer is empty afterwards, also after an error.",
            EdgeTextsTest::loadEmptiesTheBuffer);
        edges.holds("The output and the saved state do not change.",
            EdgeTextsTest::loadLeavesOutputAndSavedState);
        edges.holds("Throws `IllegalArgumentException` if the text has an error; nothing but the"
            + " input buffer, the error code and the error position changes",
            EdgeTextsTest::refusedLoadChangesNothing);
        edges.section("Promise 5");
        edges.holds("The input buffer is empty afterwards, also after an error.",
            EdgeTextsTest::commandsEmptyTheBuffer);
        edges.holds("Returns the number of commands that were executed.",
            EdgeTextsTest::numberOfExecutedCommands);
        edges.holds("Throws `IllegalArgumentException` if the text has an error; nothing but the"
            + " input buffer, the error code and the error position changes",
            EdgeTextsTest::refusedCommandsChangeNothing);
        edges.section("Promise 6");
        edges.holds("Returns the error code, or 0 if that call had no error or there was no such"
            + " call.", EdgeTextsTest::errorCodes);
        edges.section("Promise 7");
        edges.holds("Returns the position, or NONE if that call had no error or there was no such"
            + " call.", EdgeTextsTest::errorPositions);
    }

    private static void configurations(Edges edges) {
        edges.holds("A configuration consists of \"fair S;\" and \"fog F { F };\", followed by any"
            + " number of the statements \"echo NAME D R W F;\", \"valley NAME D P W M;\" and"
            + " \"tested VALLEY ECHO;\" in any order.", EdgeTextsTest::anyNumberInAnyOrder);
        edges.holds("VALLEY and ECHO are names of a valley and of an echo that were described"
            + " before.", EdgeTextsTest::describedBefore);
        edges.holds("There must be at least one echo and one valley.",
            EdgeTextsTest::atLeastOneOfEach);
        edges.holds("Braces mean that the part inside may be repeated.",
            EdgeTextsTest::repeatedLevels);
        edges.holds("The tokens are words (maximal sequences of the letters a to z), numbers"
            + " (maximal sequences of digits) and semicolons.", EdgeTextsTest::signsOfTokens);
        edges.holds("Spaces (byte 32) may stand before and after each token.",
            EdgeTextsTest::spaces);
        edges.holds("Two words, or two numbers, must be separated by a space.",
            EdgeTextsTest::separatedBySpaces);
        edges.holds("A name is a word of 1 to 6 letters; echoes have different names, and so have"
            + " valleys.", EdgeTextsTest::names);
        edges.holds("The text is parsed from left to right, and parsing stops at the first error.",
            EdgeTextsTest::firstError);
        edges.holds("The position of an error is the index of the first byte of the token that"
            + " causes it, or the length of the text if the text ends too early.",
            EdgeTextsTest::positions);
        edges.holds("If several errors apply to one token, the error with the smallest code is"
            + " reported.", EdgeTextsTest::smallestCode);
    }

    private static void errors(Edges edges) {
        edges.holds("SYNTAX_ERROR: an invalid byte", EdgeTextsTest::invalidBytes);
        edges.holds("a token that is not expected at its place",
            EdgeTextsTest::unexpectedTokens);
        edges.holds("a name with more than 6 letters", EdgeTextsTest::longNames);
        edges.holds("a number with more than 4 digits", EdgeTextsTest::longNumbers);
        edges.holds("or the end of the text before there are an echo and a valley.",
            EdgeTextsTest::textEndsTooEarly);
        edges.holds("RANGE_ERROR: a number outside its range.", EdgeTextsTest::ranges);
        edges.holds("NAME_ERROR: the name of a new echo or valley that is used already, or a name"
            + " that does not exist.", EdgeTextsTest::usedAndUnknownNames);
        edges.holds("LIMIT_ERROR: a thirteenth fog level", EdgeTextsTest::thirteenLevels);
        edges.holds("the word echo of a 13th echo", EdgeTextsTest::thirteenEchoes);
        edges.holds("or the word valley of a 9th valley.", EdgeTextsTest::nineValleys);
    }

    private static void commands(Edges edges) {
        edges.holds("A command text has at most 30 commands, each followed by a semicolon: \"pass"
            + " N\", \"fair\", \"test VALLEY ECHO\", \"dismiss ECHO\", \"wage VALLEY W\", \"fund"
            + " VALLEY N\" and \"train ECHO\".", EdgeTextsTest::numbersOfCommands);
        edges.holds("N is 1 to 60 for pass and 1 to 999 for fund.", EdgeTextsTest::commandRanges);
        edges.holds("The tokens and the errors SYNTAX_ERROR, RANGE_ERROR and NAME_ERROR are those"
            + " of the configuration.", EdgeTextsTest::commandErrors);
        edges.holds("The first word of a 31st command is a LIMIT_ERROR if it is the name of a"
            + " command.", EdgeTextsTest::thirtyFirstCommand);
        edges.holds("They are executed one after the other.", EdgeTextsTest::oneAfterTheOther);
        edges.holds("Execution stops at the first command whose method would throw an exception;"
            + " the commands before it keep their effect.", EdgeTextsTest::executionStops);
    }

    private static void anyNumberInAnyOrder() {
        EchoFair fair = Check.loaded(HEAD + "valley b 1 1 1 0;valley c 2 1 1 0;echo a 1 1 1 0;"
            + "tested c a;echo d 1 2 1 0;tested b d;valley e 1 1 1 0;tested e a;tested c a;");
        CHECK.same("two echoes", fair.echoCount(), 2);
        CHECK.same("three valleys", fair.valleyCount(), 3);
        boolean[][] due = {{false, true}, {true, false}, {true, false}};
        for (int valley = 0; valley < 3; valley++) {
            for (int echo = 0; echo < 2; echo++) {
                CHECK.same("tested " + valley + " " + echo, fair.isTested(valley, echo) ? 1 : 0,
                    due[valley][echo] ? 1 : 0);
            }
        }
        StringBuilder most = new StringBuilder(WHOLE);
        while (most.length() + 11 <= 900) {
            most.append("tested b a;");
        }
        CHECK.same("855 bytes of tests", Check.loaded(most.toString()).echoCount(), 1);
        CHECK.badLoad("", 1, 0);
        CHECK.badLoad("fog 2;", 1, 0);
        CHECK.badLoad("fair 5;fair 5;", 1, 7);
        CHECK.badLoad("fair 5;" + ECHO, 1, 7);
        CHECK.badLoad(HEAD + "fog 2;", 1, 13);
        CHECK.badLoad(HEAD + "fair 5;", 1, 13);
        CHECK.badLoad(WHOLE + ";", 1, 45);
    }

    private static void describedBefore() {
        CHECK.badLoad(HEAD + ECHO + "tested b a;" + VALLEY, 3, 35);
        CHECK.badLoad(HEAD + VALLEY + "tested b a;" + ECHO, 3, 39);
        CHECK.badLoad(WHOLE + "tested a a;", 3, 52);
        CHECK.badLoad(WHOLE + "tested b b;", 3, 54);
        CHECK.badLoad(WHOLE + "tested a b;", 3, 52);
        // A new object's names are no names of the text, nor are those of the last load.
        CHECK.badLoad(WHOLE + "tested green a;", 3, 52);
        CHECK.badLoad(WHOLE + "tested b yodel;", 3, 54);
        CHECK.yes("described just before",
            Check.loaded(WHOLE + "tested b a;").isTested(0, 0));
    }

    private static void atLeastOneOfEach() {
        CHECK.badLoad(HEAD, 1, 13);
        CHECK.badLoad(HEAD + ECHO, 1, 28);
        CHECK.badLoad(HEAD + VALLEY, 1, 30);
        CHECK.same("one of each", Check.loaded(WHOLE).echoCount(), 1);
        CHECK.same("the valley first", Check.loaded(HEAD + VALLEY + ECHO).valleyCount(), 1);
    }

    private static void repeatedLevels() {
        String rest = ";" + ECHO + VALLEY;
        CHECK.same("one level", Check.loaded("fair 5;fog 3" + rest).fogOf(1), 3);
        CHECK.same("two levels", Check.loaded("fair 5;fog 3 4" + rest).fogOf(1), 4);
        EchoFair twelve = Check.loaded("fair 5;fog 0 0 0 0 0 0 0 0 0 0 0 9" + rest);
        CHECK.same("twelve levels", twelve.fogOf(11), 9);
        CHECK.badLoad("fair 5;fog" + rest, 1, 10);
        CHECK.badLoad("fair 5;fog 3 3", 1, 14);
        CHECK.badLoad("fair 5 5;fog 3" + rest, 1, 7);
    }

    private static void signsOfTokens() {
        EchoFair ends = Check.loaded("fair 09;fog 0 9;echo az 1 9 90 9;valley za 9 1 10 9;");
        Check.type(ends, "az");
        CHECK.same("the letters a and z", ends.findEcho(), 0);
        CHECK.same("the digits 9 and 0", ends.reserveWage(0), 90);
        CHECK.same("no space where kinds differ",
            Check.loaded("fair5;fog2 1;echo a1 1 1 0;valley b1 1 1 0;").fogOf(1), 1);
        CHECK.same("number and word, then",
            Check.run(new EchoFair(), "fund green1;pass1;wage old99;"), 3);
        CHECK.badLoad("fair 5fog 2;", 1, 6);
        CHECK.badLoad("fairfog 5;", 1, 0);
    }

    private static void spaces() {
        EchoFair fair = Check.loaded("  fair  5  ;  fog  2  3  ;  echo  a  1  1  1  0  ;  valley"
            + "  b  1  1  1  0  ;  tested  b  a  ;  ");
        CHECK.same("echoes", fair.echoCount(), 1);
        CHECK.same("fog", fair.fogOf(1), 3);
        CHECK.yes("tested", fair.isTested(0, 0));
        CHECK.same("commands", Check.run(fair, "  pass  1  ;  wage  b  9  ;  "), 2);
        CHECK.same("day", fair.day(), 1);
        StringBuilder full = new StringBuilder(WHOLE);
        while (full.length() < 900) {
            full.append(' ');
        }
        CHECK.same("900 bytes with spaces", Check.loaded(full.toString()).echoCount(), 1);
        CHECK.badLoad(full.substring(0, 44) + full.substring(45), 1, 899);
        CHECK.badLoad("fair\t5;", 1, 4);
        CHECK.badLoad("fa ir 5;", 1, 0);
    }

    private static void separatedBySpaces() {
        CHECK.badLoad(HEAD + "echoa 1 1 1 0;", 1, 13);
        CHECK.badLoad(HEAD + "echo a 11 1 0;", 2, 20);
        CHECK.badLoad("fair 5;fog 12;", 2, 11);
        CHECK.badLoad(WHOLE + "tested ba;", 3, 52);
        CHECK.badLoad("fair 5;fog 1" + "2".repeat(4) + ";", 1, 11);
        CHECK.badCommands("testgreen bell;", 1, 0);
        CHECK.badCommands("test greenbell;", 1, 5);
        CHECK.badCommands("pass 6 0;", 1, 7);
        CHECK.same("separated", Check.loaded("fair 5;fog 1 2;" + ECHO + VALLEY).fogOf(1), 2);
    }

    private static void names() {
        EchoFair fair = Check.loaded(HEAD + "echo z 1 1 1 0;echo abcdef 1 1 1 0;"
            + "valley abcdef 1 1 1 0;valley z 1 1 1 0;");
        String[] texts = {"z", "abcdef", "abcde", "abcdefg", "zz"};
        int[] echoes = {0, 1, -1, -1, -1};
        int[] valleys = {1, 0, -1, -1, -1};
        for (int i = 0; i < texts.length; i++) {
            fair.truncate(0);
            Check.type(fair, texts[i]);
            CHECK.same("echo " + texts[i], fair.findEcho(), echoes[i]);
            CHECK.same("valley " + texts[i], fair.findValley(), valleys[i]);
        }
        CHECK.badLoad(HEAD + "echo abcdefg 1 1 1 0;", 1, 18);
        CHECK.badLoad(HEAD + "valley abcdefg 1 1 1 0;", 1, 20);
        CHECK.badLoad(WHOLE + "echo a 2 2 2 2;", 3, 50);
        CHECK.badLoad(WHOLE + "valley b 2 2 2 2;", 3, 52);
        CHECK.same("names that begin alike", Check.loaded(WHOLE + "echo aa 1 1 1 0;").echoCount(),
            2);
    }

    private static void firstError() {
        CHECK.badLoad("fair 31;fog a;echo", 2, 5);
        CHECK.badLoad("fair 5;fog 1 10 11;!", 2, 13);
        CHECK.badLoad(HEAD + "echo a 0 0 0 10;!", 2, 20);
        CHECK.badLoad(HEAD + "echo a 1 10 1 00000;", 2, 22);
        CHECK.badLoad(WHOLE + "tested c c;!", 3, 52);
        CHECK.badLoad(WHOLE + "tested b c!", 3, 54);
        CHECK.badLoad(WHOLE + "echo a 0!", 3, 50);
        CHECK.badCommands("pass 61;pass 0;!", 2, 5);
        CHECK.badCommands("test old old;fair!", 3, 9);
        EchoFair fair = new EchoFair();
        Check.type(fair, "fair 5;" + "?".repeat(13));
        CHECK.argument("a wrong text", fair::load);
        CHECK.same("its position", fair.errorPosition(), 7);
    }

    private static void positions() {
        CHECK.badLoad("x", 1, 0);
        CHECK.badLoad("   x", 1, 3);
        CHECK.badLoad("fair    abc;", 1, 8);
        CHECK.badLoad("fair 5;fog 1 2   999;", 2, 17);
        String[] ends = {"", "fair", "fair ", "fair 5", "fair 5;", "fair 5;fog", "fair 5;fog 1",
            HEAD + "echo", HEAD + "echo a", HEAD + "echo a 1", HEAD + "echo a 1 1 1 0",
            HEAD + "valley", HEAD + "valley b 1 1 1 0 ", WHOLE + "tested", WHOLE + "tested b",
            WHOLE + "tested b a", WHOLE + "tested b a   "};
        for (String text : ends) {
            CHECK.badLoad(text, 1, text.length());
        }
        StringBuilder full = new StringBuilder(WHOLE + "tested b a");
        while (full.length() < 900) {
            full.append(' ');
        }
        CHECK.badLoad(full.toString(), 1, 900);
        CHECK.badLoad(full.substring(0, 899) + "x", 1, 899);
        String[] commands = {"pass", "pass 1", "fair", "test", "test old", "test old bell  ",
            "fair;wage old 1"};
        for (String text : commands) {
            CHECK.badCommands(text, 1, text.length());
        }
    }

    private static void smallestCode() {
        CHECK.badLoad("fair 99999;", 1, 5);
        CHECK.badLoad("fair 00000;", 1, 5);
        CHECK.badLoad("fair 5;fog 0 1 2 3 4 5 6 7 8 9 0 1 10;", 2, 35);
        CHECK.badLoad("fair 5;fog 0 1 2 3 4 5 6 7 8 9 0 1 10000;", 1, 35);
        CHECK.badLoad("fair 5;fog 0 1 2 3 4 5 6 7 8 9 0 1 a;", 1, 35);
        CHECK.badLoad(WHOLE + "tested unknown a;", 1, 52);
        CHECK.badLoad(WHOLE + "tested b unknown;", 1, 54);
        CHECK.badCommands("dismiss unknown;", 1, 8);
        CHECK.badCommands("wage unknown 1;", 1, 5);
        CHECK.badCommands("fund old 12345;", 1, 9);
        CHECK.badCommands("fair;".repeat(30) + "unknown;", 1, 150);
    }

    private static void invalidBytes() {
        for (int i = 0; i < SIGNS.length(); i++) {
            char sign = SIGNS.charAt(i);
            CHECK.badLoad(sign + WHOLE, 1, 0);
            CHECK.badLoad("fair" + sign + "5;", 1, 4);
            CHECK.badLoad("fair 5" + sign + ";", 1, 6);
            CHECK.badLoad("fair 5;" + sign + "fog 2;", 1, 7);
            CHECK.badLoad("fair 5;fog 2 " + sign + ";", 1, 13);
            CHECK.badLoad(HEAD + "echo a" + sign + " 1 1 1 0;", 1, 19);
            CHECK.badLoad(WHOLE + sign, 1, 45);
            CHECK.badLoad(WHOLE + "  " + sign, 1, 47);
            CHECK.badCommands("fair;" + sign, 1, 5);
            CHECK.badCommands("wage old" + sign, 1, 8);
        }
    }

    private static void unexpectedTokens() {
        CHECK.badLoad("5;", 1, 0);
        CHECK.badLoad(";", 1, 0);
        CHECK.badLoad("fair;", 1, 4);
        CHECK.badLoad("fair five;", 1, 5);
        CHECK.badLoad("fair 5 fog", 1, 7);
        CHECK.badLoad("fair 5;echo", 1, 7);
        CHECK.badLoad("fair 5;fog;", 1, 10);
        CHECK.badLoad("fair 5;fog 1 fog;", 1, 13);
        CHECK.badLoad(HEAD + "7;", 1, 13);
        CHECK.badLoad(HEAD + ";", 1, 13);
        CHECK.badLoad(HEAD + "echo ;", 1, 18);
        CHECK.badLoad(HEAD + "echo 1 1 1 1 0;", 1, 18);
        CHECK.badLoad(HEAD + "echo a b 1 1 0;", 1, 20);
        CHECK.badLoad(HEAD + "echo a 1 b 1 0;", 1, 22);
        CHECK.badLoad(HEAD + "echo a 1 1 b 0;", 1, 24);
        CHECK.badLoad(HEAD + "echo a 1 1 1;", 1, 25);
        CHECK.badLoad(HEAD + "echo a 1 1 1 0 0;", 1, 28);
        CHECK.badLoad(HEAD + "echo a 1 1 1 0 echo", 1, 28);
        CHECK.badLoad(HEAD + "valley ;", 1, 20);
        CHECK.badLoad(HEAD + "valley b c 1 1 0;", 1, 22);
        CHECK.badLoad(HEAD + "valley b 1 c 1 0;", 1, 24);
        CHECK.badLoad(HEAD + "valley b 1 1 c 0;", 1, 26);
        CHECK.badLoad(HEAD + "valley b 1 1 1;", 1, 27);
        CHECK.badLoad(HEAD + "valley b 1 1 1 0 0;", 1, 30);
        CHECK.badLoad(WHOLE + "tested;", 1, 51);
        CHECK.badLoad(WHOLE + "tested 1;", 1, 52);
        CHECK.badLoad(WHOLE + "tested b;", 1, 53);
        CHECK.badLoad(WHOLE + "tested b 1;", 1, 54);
        CHECK.badLoad(WHOLE + "tested b a a;", 1, 56);
        CHECK.badLoad(WHOLE + "pass 1;", 1, 45);
        for (String word : almost("fair")) {
            CHECK.badLoad(word + " 5;fog 2;" + ECHO + VALLEY, 1, 0);
        }
        for (String word : almost("fog")) {
            CHECK.badLoad("fair 5;" + word + " 2;" + ECHO + VALLEY, 1, 7);
        }
        String[] statements = {"echo", "valley", "tested"};
        for (String statement : statements) {
            for (String word : almost(statement)) {
                CHECK.badLoad(WHOLE + word + " c 1 1 1 0;", 1, 45);
                CHECK.badLoad(WHOLE + word + " b a;", 1, 45);
            }
        }
        String[] commands = {"pass", "fair", "test", "dismiss", "wage", "fund", "train"};
        for (String command : commands) {
            for (String word : almost(command)) {
                CHECK.badCommands(word + ";", 1, 0);
                CHECK.badCommands("fair;" + word + " 1;", 1, 5);
                CHECK.badCommands("fair;" + word + " old bell;", 1, 5);
            }
        }
    }

    /** The word with one letter changed, left out or doubled. */
    private static String[] almost(String word) {
        String[] words = new String[3 * word.length()];
        for (int i = 0; i < word.length(); i++) {
            String before = word.substring(0, i);
            String behind = word.substring(i + 1);
            words[3 * i] = before + (char) (word.charAt(i) + 1) + behind;
            words[3 * i + 1] = before + behind;
            words[3 * i + 2] = before + word.charAt(i) + word.charAt(i) + behind;
        }
        return words;
    }

    private static void longNames() {
        CHECK.badLoad(HEAD + "echo " + "a".repeat(7) + " 1 1 1 0;", 1, 18);
        CHECK.badLoad(HEAD + "valley " + "a".repeat(7) + " 1 1 1 0;", 1, 20);
        CHECK.badLoad(HEAD + "echo " + "a".repeat(800), 1, 18);
        CHECK.badLoad(WHOLE + "tested " + "b".repeat(7) + " a;", 1, 52);
        CHECK.badLoad(WHOLE + "tested b " + "a".repeat(7) + ";", 1, 54);
        String six = "a".repeat(6);
        CHECK.yes("six letters", Check.loaded(HEAD + "echo " + six + " 1 1 1 0;valley " + six
            + " 1 1 1 0;tested " + six + " " + six + ";").isTested(0, 0));
        CHECK.badCommands("train mumbleh;", 1, 6);
        CHECK.badCommands("test greenly bell;", 1, 5);
    }

    private static void longNumbers() {
        CHECK.badLoad("fair 00005;", 1, 5);
        CHECK.badLoad("fair 5;fog 00002;", 1, 11);
        CHECK.badLoad("fair 5;fog 2 00002;", 1, 13);
        CHECK.badLoad(HEAD + "echo a 00001 1 1 0;", 1, 20);
        CHECK.badLoad(HEAD + "valley b 1 1 1 10000;", 1, 28);
        CHECK.badLoad(HEAD + "valley b 1 1 1 00000;", 1, 28);
        // 2 to the 32nd and one more, which would be 1 if it were counted in an int.
        CHECK.badLoad("fair 4294967297;", 1, 5);
        CHECK.badLoad("fair " + "0".repeat(800) + "5;", 1, 5);
        CHECK.badCommands("pass 00001;", 1, 5);
        CHECK.badCommands("wage old 00001;", 1, 9);
        CHECK.same("four digits", Check.loaded("fair 0005;fog 0002;echo a 0001 0001 0001 0000;"
            + "valley b 0001 0001 0001 9999;").purseOf(0), 9999);
        CHECK.same("four digits of commands",
            Check.run(new EchoFair(), "pass 0060;wage old 0099;fund old 0999;"), 3);
    }

    private static void textEndsTooEarly() {
        CHECK.badLoad("", 1, 0);
        CHECK.badLoad("     ", 1, 5);
        CHECK.badLoad(HEAD, 1, 13);
        CHECK.badLoad(HEAD + "  ", 1, 15);
        CHECK.badLoad(HEAD + ECHO, 1, 28);
        CHECK.badLoad(HEAD + ECHO + "echo c 1 1 1 0;", 1, 43);
        CHECK.badLoad(HEAD + VALLEY, 1, 30);
        CHECK.badLoad(HEAD + VALLEY + "valley c 1 1 1 0; ", 1, 48);
    }

    private static void ranges() {
        String[] numbers = {"fair 0;", "fair 31;", "fair 5;fog 10;", "fair 5;fog 0 10;"};
        int[] places = {5, 5, 11, 13};
        for (int i = 0; i < numbers.length; i++) {
            CHECK.badLoad(numbers[i], 2, places[i]);
        }
        String[] echoes = {"0 1 1 0", "10 1 1 0", "1 0 1 0", "1 10 1 0", "1 1 0 0", "1 1 100 0",
            "1 1 1 10"};
        int[] offsets = {0, 0, 2, 2, 4, 4, 6};
        for (int i = 0; i < echoes.length; i++) {
            CHECK.badLoad(HEAD + "echo a " + echoes[i] + ";", 2, 20 + offsets[i]);
            String valley = echoes[i].replace("1 10 ", "1 4 ");
            if (i < 6) {
                CHECK.badLoad(HEAD + "valley b " + valley + ";", 2, 22 + offsets[i]);
            }
        }
        Check.loaded("fair 1;fog 0 9;echo a 1 1 1 0;echo b 9 9 99 9;valley v 1 1 1 0;"
            + "valley w 9 3 99 9999;");
        Check.loaded("fair 30;fog 9 0;echo a 1 1 1 0;valley v 1 1 1 0;");
    }

    private static void usedAndUnknownNames() {
        CHECK.badLoad(WHOLE + "echo a 2 2 2 2;", 3, 50);
        CHECK.badLoad(WHOLE + "echo c 1 1 1 0;echo a 2 2 2 2;", 3, 65);
        CHECK.badLoad(WHOLE + "valley b 2 2 2 2;", 3, 52);
        CHECK.badLoad(WHOLE + "tested c a;", 3, 52);
        CHECK.badLoad(WHOLE + "tested b c;", 3, 54);
        CHECK.same("an echo's name for a valley",
            Check.loaded(WHOLE + "valley a 1 1 1 0;").valleyCount(), 2);
        CHECK.same("a valley's name for an echo",
            Check.loaded(WHOLE + "echo b 1 1 1 0;").echoCount(), 2);
        CHECK.same("words of statements are names",
            Check.loaded(HEAD + "echo echo 1 1 1 0;valley tested 1 1 1 0;tested tested echo;"
                + "echo fair 1 1 1 0;valley fog 1 1 1 0;").valleyCount(), 2);
    }

    private static void thirteenLevels() {
        String twelve = "fair 5;fog 0 1 2 3 4 5 6 7 8 9 0 1";
        CHECK.same("twelve", Check.loaded(twelve + ";" + ECHO + VALLEY).fogOf(11), 1);
        CHECK.badLoad(twelve + " 2;" + ECHO + VALLEY, 4, 35);
        CHECK.badLoad(twelve + " 2", 4, 35);
        CHECK.badLoad(twelve + " 2 3 4 5;", 4, 35);
        CHECK.badLoad(twelve, 1, 34);
    }

    private static void thirteenEchoes() {
        StringBuilder text = new StringBuilder(HEAD + VALLEY);
        for (char name = 'a'; name <= 'l'; name++) {
            text.append("echo ").append(name).append(" 1 1 1 0;");
        }
        CHECK.same("twelve", Check.loaded(text.toString()).echoCount(), 12);
        CHECK.badLoad(text + "echo m 1 1 1 0;", 4, text.length());
        CHECK.badLoad(text + "  echo", 4, text.length() + 2);
        CHECK.badLoad(text + "echo a 0", 4, text.length());
        CHECK.badLoad(text + "ech", 1, text.length());
        CHECK.same("a valley is no echo", Check.loaded(text + "valley c 1 1 1 0;").valleyCount(),
            2);
    }

    private static void nineValleys() {
        StringBuilder text = new StringBuilder(HEAD + ECHO);
        for (char name = 'a'; name <= 'h'; name++) {
            text.append("valley ").append(name).append(" 1 1 1 0;");
        }
        CHECK.same("eight", Check.loaded(text.toString()).valleyCount(), 8);
        CHECK.badLoad(text + "valley i 1 1 1 0;", 4, text.length());
        CHECK.badLoad(text + "  valley", 4, text.length() + 2);
        CHECK.badLoad(text + "valley a 0", 4, text.length());
        CHECK.badLoad(text + "valle", 1, text.length());
        CHECK.same("an echo is no valley", Check.loaded(text + "echo c 1 1 1 0;").echoCount(), 2);
    }

    private static void numbersOfCommands() {
        CHECK.same("none", Check.run(new EchoFair(), ""), 0);
        CHECK.same("none but spaces", Check.run(new EchoFair(), "   "), 0);
        CHECK.same("one", Check.run(new EchoFair(), "fair;"), 1);
        CHECK.same("thirty", Check.run(new EchoFair(), "fair;".repeat(30)), 30);
        CHECK.same("thirty long ones",
            Check.run(new EchoFair(), "wage green 99;fund green 9; ".repeat(15)), 30);
        CHECK.badCommands("fair;".repeat(31), 4, 150);
        CHECK.badCommands("fair;".repeat(180), 4, 150);
        String[] commands = {"pass 1", "fair", "test green bell", "dismiss bell", "wage old 1",
            "fund old 1", "train bell"};
        for (String command : commands) {
            CHECK.badCommands(command, 1, command.length());
            CHECK.badCommands(command + " fair;", 1, command.length() + 1);
            CHECK.badCommands(command + ";;", 1, command.length() + 1);
        }
        CHECK.badCommands(";", 1, 0);
    }

    private static void commandRanges() {
        EchoFair fair = new EchoFair();
        CHECK.same("the least", Check.run(fair, "pass 1;fund old 1;"), 2);
        CHECK.same("a day", fair.day(), 1);
        int purse = fair.purseOf(2);
        CHECK.same("the most", Check.run(fair, "fund old 999;pass 60;"), 2);
        CHECK.same("61 days", fair.day(), 61);
        fair.undo();
        CHECK.same("undone", fair.purseOf(2), purse);
        CHECK.badCommands("pass 0;", 2, 5);
        CHECK.badCommands("pass 61;", 2, 5);
        CHECK.badCommands("pass 9999;", 2, 5);
        CHECK.badCommands("fund old 0;", 2, 9);
        CHECK.badCommands("fund old 1000;", 2, 9);
        CHECK.badCommands("wage old 0;", 2, 9);
        CHECK.badCommands("wage old 100;", 2, 9);
        EchoFair wages = new EchoFair();
        CHECK.same("wages", Check.run(wages, "wage green 1;wage old 99;"), 2);
        CHECK.same("the least wage", wages.wageOf(0), 1);
        CHECK.same("the greatest wage", wages.wageOf(2), 99);
    }

    private static void commandErrors() {
        CHECK.badCommands("test green;", 1, 10);
        CHECK.badCommands("test bell green;", 3, 5);
        CHECK.badCommands("test green green;", 3, 11);
        CHECK.badCommands("dismiss;", 1, 7);
        CHECK.badCommands("dismiss old;", 3, 8);
        CHECK.badCommands("dismiss bells;", 3, 8);
        CHECK.badCommands("wage bell 1;", 3, 5);
        CHECK.badCommands("wage old;", 1, 8);
        CHECK.badCommands("wage old bell;", 1, 9);
        CHECK.badCommands("fund 1;", 1, 5);
        CHECK.badCommands("train 1;", 1, 6);
        CHECK.badCommands("train old;", 3, 6);
        CHECK.badCommands("pass bell;", 1, 5);
        CHECK.badCommands("fair 1;", 1, 5);
        CHECK.badCommands("Fair;", 1, 0);
        CHECK.badCommands("load;", 1, 0);
        CHECK.badCommands("1;", 1, 0);
        EchoFair fair = Check.loaded(WHOLE);
        Check.type(fair, "dismiss yodel;");
        CHECK.argument("a name of the replaced echoes", fair::executeCommands);
        CHECK.same("its code", fair.errorCode(), 3);
    }

    private static void thirtyFirstCommand() {
        String thirty = "fair;".repeat(30);
        String[] names = {"pass", "fair", "test", "dismiss", "wage", "fund", "train"};
        for (String name : names) {
            CHECK.badCommands(thirty + name, 4, 150);
            CHECK.badCommands(thirty + "   " + name + " 0 0;", 4, 153);
        }
        String[] others = {"pas", "passs", "fairs", "echo", "a", "1", ";", "!"};
        for (String other : others) {
            CHECK.badCommands(thirty + other, 1, 150);
        }
    }

    private static void oneAfterTheOther() {
        EchoFair fair = Check.loaded("fair 30;fog 0;echo a 1 1 10 0;valley b 1 1 9 99;");
        CHECK.same("each command meets what the ones before left", Check.run(fair,
            "test b a;wage b 10;fair;dismiss a;fair;pass 1;train a;"), 7);
        CHECK.same("repeats", fair.repeatsOf(0), 2);
        CHECK.same("contracts: two fairs and day 0", fair.contractsMade(), 3);
        CHECK.same("in another order", Check.run(fair, "dismiss a;test b a;"), 1);
    }

    private static void executionStops() {
        String[] first = {"test green yodel;", "dismiss yodel;", "train yodel;"};
        for (String stop : first) {
            EchoFair fair = new EchoFair();
            CHECK.same("stops at the first: " + stop, Check.run(fair, stop + "pass 1;"), 0);
            CHECK.same("nothing behind " + stop, fair.day(), 0);
            EchoFair middle = new EchoFair();
            CHECK.same("stops in the middle: " + stop,
                Check.run(middle, "fund old 1;" + stop + "fund old 2;"), 1);
            CHECK.same("the effect before " + stop, middle.purseOf(2), 31);
            EchoFair last = new EchoFair();
            CHECK.same("stops at the last: " + stop,
                Check.run(last, "fund old 1;fund old 2;" + stop), 2);
            CHECK.same("both effects before " + stop, last.purseOf(2), 33);
            CHECK.same("is one operation", last.undo(), 0);
            CHECK.same("is undone", last.purseOf(2), 30);
        }
        EchoFair employed = new EchoFair();
        CHECK.same("no test of one with a contract", Check.run(employed, "fair;test old yodel;"),
            1);
        EchoFair nine = Check.loaded("fair 30;fog 0;echo a 1 9 1 0;valley b 9 1 99 99;");
        CHECK.same("no training beyond nine", Check.run(nine, "pass 30;train a;pass 1;"), 1);
        CHECK.same("day", nine.day(), 30);
    }

    /** Whatever was done, and whatever was simulated last. */
    private static void loadReplacesEverything() {
        for (int days = 0; days <= 12; days++) {
            EchoFair fair = new EchoFair();
            fair.passDays(2);
            fair.test(0, 2);
            fair.train(0);
            fair.fund(1, 5);
            fair.fund(1, 5);
            fair.undo();
            fair.purseAfter(0, days);
            loadAnother(fair);
        }
        EchoFair fair = new EchoFair();
        Check.type(fair, "fair 3;fog 1;" + ECHO + VALLEY + "tested b a;echo c 1 1 1;");
        CHECK.argument("a load that ends late", fair::load);
        loadAnother(fair);
    }

    private static void loadAnother(EchoFair fair) {
        Check.type(fair, "fair 3;fog 1;echo a 1 1 1 0;echo c 1 1 1 0;echo d 1 1 1 0;"
            + "echo e 1 1 1 0;valley b 1 3 1 0;valley f 1 1 1 0;valley g 1 1 1 0;");
        CHECK.same("echoes", fair.load(), 4);
        CHECK.same("day", fair.day(), 0);
        CHECK.same("season", fair.seasonLength(), 3);
        CHECK.same("fog", fair.fogOf(1), 1);
        CHECK.same("no contracts", Check.contracts(fair), "b= f= g=");
        CHECK.same("made", fair.contractsMade(), 0);
        CHECK.same("ended", fair.contractsEnded(), 0);
        for (int echo = 0; echo < 4; echo++) {
            CHECK.same("employer", fair.employerOf(echo), -1);
            CHECK.same("savings", fair.savingsOf(echo), 0);
            CHECK.same("unpaid days", fair.unpaidDays(echo), 0);
            CHECK.same("desertions", fair.desertions(echo), 0);
            for (int valley = 0; valley < 3; valley++) {
                CHECK.same("not deserted", fair.pairReason(valley, echo), 0);
                CHECK.no("not tested", fair.isTested(valley, echo));
                CHECK.same("days served", fair.daysServed(valley, echo), 0);
            }
        }
        for (int valley = 0; valley < 3; valley++) {
            CHECK.same("replies", fair.repliesHeard(valley), 0);
            CHECK.same("paid", fair.wagesPaid(valley), 0);
            CHECK.same("purse", fair.purseOf(valley), 0);
        }
        CHECK.state("nothing to undo", fair::undo);
        CHECK.same("money", fair.moneyImbalance(), 0);
        Check.type(fair, "yodel");
        CHECK.same("the old names are gone", fair.findEcho(), -1);
    }

    private static void loadEmptiesTheBuffer() {
        EchoFair fair = Check.loaded(WHOLE);
        CHECK.argument("empty after success", () -> fair.truncate(1));
        CHECK.same("length 0", fair.truncate(0), 0);
        Check.type(fair, "fair 0;");
        CHECK.argument("an error", fair::load);
        CHECK.argument("empty after an error", () -> fair.truncate(1));
        CHECK.same("appended from the start", fair.append(0, 0, 0, 0, 0), 20);
    }

    private static void loadLeavesOutputAndSavedState() {
        EchoFair fair = new EchoFair();
        fair.passDays(1);
        fair.formatContracts();
        fair.save();
        Check.type(fair, WHOLE);
        fair.load();
        CHECK.same("the output's first byte", fair.outputByte(0), 'g');
        CHECK.same("the output's last byte", fair.outputByte(31), 'n');
        CHECK.same("the output's end", fair.outputByte(32), -1);
        CHECK.same("the saved day", fair.restore(), 1);
        CHECK.same("the saved echoes", fair.echoCount(), 4);
        EchoFair none = Check.loaded(WHOLE);
        CHECK.state("no saved state", none::restore);
        CHECK.same("no output", none.outputByte(0), -1);
    }

    private static void refusedLoadChangesNothing() {
        EchoFair fair = new EchoFair();
        fair.passDays(1);
        fair.formatContracts();
        fair.save();
        fair.passDays(1);
        fair.fund(2, 5);
        // The error is the last thing of a text that describes other echoes and valleys.
        Check.type(fair, "fair 9;fog 1;echo a 1 1 1 0;valley green 1 1 1 0;tested green a;!");
        CHECK.argument("an error at the end", fair::load);
        CHECK.same("code", fair.errorCode(), 1);
        CHECK.same("position", fair.errorPosition(), 64);
        CHECK.same("echoes", fair.echoCount(), 4);
        CHECK.same("valleys", fair.valleyCount(), 3);
        CHECK.same("season", fair.seasonLength(), 5);
        CHECK.same("fog", fair.fogOf(1), 7);
        CHECK.same("day", fair.day(), 2);
        CHECK.same("delay", fair.delayOf(0), 3);
        CHECK.same("width", fair.widthOf(0), 4);
        CHECK.same("contracts made", fair.contractsMade(), 3);
        CHECK.same("desertions", fair.desertions(0), 1);
        CHECK.same("output", fair.outputByte(0), 'g');
        CHECK.same("purse", fair.purseOf(2), 55);
        CHECK.same("undo", fair.undo(), 2);
        CHECK.same("purse then", fair.purseOf(2), 50);
        CHECK.same("money", fair.moneyImbalance(), 0);
        CHECK.same("the saved state", fair.restore(), 1);
    }

    private static void commandsEmptyTheBuffer() {
        EchoFair fair = new EchoFair();
        Check.run(fair, "fair;");
        CHECK.argument("empty after success", () -> fair.truncate(1));
        Check.run(fair, "dismiss bell;");
        CHECK.argument("empty after a stop", () -> fair.truncate(1));
        Check.type(fair, "pass 0;");
        CHECK.argument("an error", fair::executeCommands);
        CHECK.argument("empty after an error", () -> fair.truncate(1));
        CHECK.same("appended from the start", fair.append(0, 0, 0, 0, 0), 20);
    }

    private static void numberOfExecutedCommands() {
        CHECK.same("none", Check.run(new EchoFair(), ""), 0);
        CHECK.same("none before the stop", Check.run(new EchoFair(), "dismiss bell;fair;"), 0);
        CHECK.same("one before the stop", Check.run(new EchoFair(), "fair;dismiss bell;"), 1);
        CHECK.same("all thirty", Check.run(new EchoFair(), "pass 1;".repeat(30)), 30);
        CHECK.same("29 before the stop",
            Check.run(new EchoFair(), "fair;".repeat(29) + "dismiss bell;"), 29);
    }

    private static void refusedCommandsChangeNothing() {
        EchoFair fair = new EchoFair();
        fair.passDays(1);
        fair.formatContracts();
        fair.save();
        fair.fund(2, 5);
        Check.type(fair, "fund old 7;pass 9;test green bell;wage old 1;dismiss horn;fair;pass 0;");
        CHECK.argument("an error at the end", fair::executeCommands);
        CHECK.same("code", fair.errorCode(), 2);
        CHECK.same("position", fair.errorPosition(), 68);
        CHECK.same("day", fair.day(), 1);
        CHECK.same("purse", fair.purseOf(2), 45);
        CHECK.same("wage", fair.wageOf(2), 15);
        CHECK.no("test", fair.isTested(0, 2));
        CHECK.same("contract", fair.employerOf(3), 2);
        CHECK.same("output", fair.outputByte(0), 'g');
        CHECK.same("undo", fair.undo(), 1);
        CHECK.same("purse then", fair.purseOf(2), 40);
        CHECK.same("the saved state", fair.restore(), 1);
    }

    private static void errorCodes() {
        EchoFair fair = new EchoFair();
        CHECK.same("no such call", fair.errorCode(), 0);
        CHECK.argument("an empty configuration", fair::load);
        CHECK.same("of a load", fair.errorCode(), 1);
        CHECK.same("commands without error", Check.run(fair, ""), 0);
        CHECK.same("of commands without error", fair.errorCode(), 0);
        Check.type(fair, "pass 0;");
        CHECK.argument("pass 0", fair::executeCommands);
        CHECK.same("of commands", fair.errorCode(), 2);
        CHECK.index("no call of a text", () -> fair.train(-1));
        CHECK.same("of the most recent text", fair.errorCode(), 2);
        CHECK.same("a stop is no error", Check.run(fair, "dismiss bell;"), 0);
        CHECK.same("of a stop", fair.errorCode(), 0);
        Check.type(fair, "dismiss green;");
        CHECK.argument("dismiss green", fair::executeCommands);
        CHECK.same("of a name", fair.errorCode(), 3);
        Check.type(fair, "fair;".repeat(31));
        CHECK.argument("31 commands", fair::executeCommands);
        CHECK.same("of a limit", fair.errorCode(), 4);
        Check.type(fair, WHOLE);
        fair.load();
        CHECK.same("of a load without error", fair.errorCode(), 0);
    }

    private static void errorPositions() {
        EchoFair fair = new EchoFair();
        CHECK.same("no such call", fair.errorPosition(), -1);
        CHECK.argument("an empty configuration", fair::load);
        CHECK.same("of an empty text", fair.errorPosition(), 0);
        CHECK.same("commands without error", Check.run(fair, ""), 0);
        CHECK.same("of commands without error", fair.errorPosition(), -1);
        Check.type(fair, "fair;pass 0;");
        CHECK.argument("pass 0", fair::executeCommands);
        CHECK.same("of commands", fair.errorPosition(), 10);
        fair.passDays(1);
        CHECK.same("of the most recent text", fair.errorPosition(), 10);
        CHECK.same("a stop is no error", Check.run(fair, "dismiss bell;"), 0);
        CHECK.same("of a stop", fair.errorPosition(), -1);
        Check.type(fair, " ".repeat(900));
        CHECK.argument("spaces", fair::load);
        CHECK.same("of 900 spaces", fair.errorPosition(), 900);
        Check.type(fair, WHOLE);
        fair.load();
        CHECK.same("of a load without error", fair.errorPosition(), -1);
    }
}
