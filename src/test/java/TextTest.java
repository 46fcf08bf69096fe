/** Promises 1 to 7, 13, 14, 62 and 63: the texts that go in and come out. */
public final class TextTest {
    private static final Check CHECK = new Check("TextTest");
    private static final String HEAD = "fair 5;fog 2;";
    private static final String ECHO = "echo a 1 1 1 0;";
    private static final String VALLEY = "valley b 1 1 1 0;";

    public static void main(String[] args) {
        newObject();
        append();
        truncate();
        load();
        loadReplacesEverything();
        loadAfterSimulations();
        loadSyntax();
        loadRanges();
        loadNames();
        loadLimits();
        commands();
        commandErrors();
        commandLimits();
        find();
        contracts();
        CHECK.finish();
    }

    private static void newObject() {
        EchoFair fair = new EchoFair();
        CHECK.same("1: echoes", fair.echoCount(), 4);
        CHECK.same("1: valleys", fair.valleyCount(), 3);
        CHECK.same("1: season", fair.seasonLength(), 5);
        CHECK.same("1: day", fair.day(), 0);
        CHECK.same("1: buffer", fair.append(0, 0, 0, 0, 0), 20);
        CHECK.same("1: output", fair.outputByte(0), -1);
        CHECK.state("1: restore", fair::restore);
        CHECK.state("1: undo", fair::undo);
        CHECK.same("1: error code", fair.errorCode(), 0);
        CHECK.same("1: error position", fair.errorPosition(), -1);
        CHECK.same("1: contracts", Check.contracts(fair), "green= deep= old=");
        int[][] echoes = {{3, 6, 9, 5}, {8, 2, 4, 1}, {5, 9, 14, 8}, {4, 5, 6, 3}};
        for (int echo = 0; echo < 4; echo++) {
            CHECK.same("15: delay " + echo, fair.delayOf(echo), echoes[echo][0]);
            CHECK.same("16: repeats " + echo, fair.repeatsOf(echo), echoes[echo][1]);
            CHECK.same("17: reserve " + echo, fair.reserveWage(echo), echoes[echo][2]);
            CHECK.same("18: resistance " + echo, fair.resistanceOf(echo), echoes[echo][3]);
        }
        int[][] valleys = {{4, 1, 10, 60}, {8, 2, 8, 5}, {2, 1, 15, 30}};
        for (int valley = 0; valley < 3; valley++) {
            CHECK.same("22: width " + valley, fair.widthOf(valley), valleys[valley][0]);
            CHECK.same("23: posts " + valley, fair.postsOf(valley), valleys[valley][1]);
            CHECK.same("24: wage " + valley, fair.wageOf(valley), valleys[valley][2]);
            CHECK.same("25: purse " + valley, fair.purseOf(valley), valleys[valley][3]);
        }
        for (int valley = 0; valley < 3; valley++) {
            for (int echo = 0; echo < 4; echo++) {
                boolean tested = valley == 0 && echo == 0 || valley == 1 && echo == 1
                    || valley == 2 && echo == 3;
                CHECK.same("28: tested " + valley + " " + echo,
                    fair.isTested(valley, echo) ? 1 : 0, tested ? 1 : 0);
            }
        }
    }

    private static void append() {
        EchoFair fair = new EchoFair();
        // 'horn' is the first word, so that a wrong order of the bytes is seen.
        fair.append(0x686f726e, -1, -1, -1, -1);
        fair.truncate(4);
        CHECK.same("2: the most significant byte first", fair.findEcho(), 3);
        fair.truncate(0);
        fair.append(0x6d756d62, 0x6c650000, 0, 0, 0);
        fair.truncate(6);
        CHECK.same("2: bytes 4 to 7", fair.findEcho(), 1);
        fair.truncate(0);
        for (int i = 1; i <= 45; i++) {
            CHECK.same("2: block " + i, fair.append(i, -i, 0, 1 << 31, 255), 20 * i);
        }
        CHECK.state("2: a block more", () -> fair.append(0, 0, 0, 0, 0));
        CHECK.same("2: 881 bytes", fair.truncate(881), 881);
        CHECK.state("2: 901 bytes", () -> fair.append(0, 0, 0, 0, 0));
        CHECK.same("2: 880 bytes", fair.truncate(880), 880);
        CHECK.same("2: 900 bytes", fair.append(0, 0, 0, 0, 0), 900);
        EchoFair last = new EchoFair();
        Check.type(last, "aaaaaaaaaaaaaaaa");
        last.append(0, 0, 0, 0, 0);
        CHECK.same("2: behind 16 bytes", last.truncate(36), 36);
    }

    private static void truncate() {
        EchoFair fair = new EchoFair();
        CHECK.same("3: nothing", fair.truncate(0), 0);
        CHECK.argument("3: one of none", () -> fair.truncate(1));
        fair.append(0, 0, 0, 0, 0);
        CHECK.argument("3: negative", () -> fair.truncate(-1));
        CHECK.argument("3: least", () -> fair.truncate(Integer.MIN_VALUE));
        CHECK.argument("3: greater", () -> fair.truncate(21));
        CHECK.same("3: equal", fair.truncate(20), 20);
        CHECK.same("3: shorter", fair.truncate(7), 7);
        CHECK.argument("3: longer again", () -> fair.truncate(8));
        CHECK.same("3: appended", fair.append(0, 0, 0, 0, 0), 27);
    }

    private static void load() {
        EchoFair fair = new EchoFair();
        Check.type(fair, HEAD + ECHO + VALLEY);
        CHECK.same("4: echoes", fair.load(), 1);
        CHECK.same("4: empty buffer", fair.append(0, 0, 0, 0, 0), 20);
        CHECK.same("6: no error", fair.errorCode(), 0);
        CHECK.same("7: no error", fair.errorPosition(), -1);
        CHECK.argument("4: wrong bytes", fair::load);
        CHECK.same("6: error", fair.errorCode(), 1);
        CHECK.same("7: error", fair.errorPosition(), 0);
        CHECK.same("4: empty buffer after an error", fair.truncate(0), 0);
        CHECK.argument("4: empty text", fair::load);
        CHECK.same("7: empty text", fair.errorPosition(), 0);
        CHECK.same("4: still there", fair.valleyCount(), 1);
        Check.type(fair, "  fair 0030 ;fog9 8 7 ; tested1 ");
        CHECK.argument("4: number for a name", fair::load);
        CHECK.same("7: number for a name", fair.errorPosition(), 30);
        EchoFair spaced = Check.loaded(" fair0030 ; fog9 0 0007;echo tested9 9 99 9 ;valley echo1 1"
            + " 1 0;valley fair 9 3 99 9999 ; tested echo tested;tested echo tested;  ");
        CHECK.same("4: season", spaced.seasonLength(), 30);
        CHECK.same("4: fog", spaced.fogOf(2), 7);
        CHECK.same("4: purse", spaced.purseOf(1), 9999);
        CHECK.yes("4: tested", spaced.isTested(0, 0));
        CHECK.no("4: not tested", spaced.isTested(1, 0));
        CHECK.same("4: reserve", spaced.reserveWage(0), 99);
        CHECK.same("4: names of both kinds may agree",
            Check.loaded(HEAD + "echo b 1 1 1 0;" + VALLEY).echoCount(), 1);
        CHECK.same("4: fog of twelve levels",
            Check.loaded("fair 1;fog 0 1 2 3 4 5 6 7 8 9 0 1;" + ECHO + VALLEY).fogOf(23), 1);
    }

    private static void loadReplacesEverything() {
        EchoFair fair = new EchoFair();
        fair.passDays(3);
        fair.test(1, 0);
        fair.formatContracts();
        fair.save();
        Check.type(fair, "fair 3;fog 1;echo p 3 6 1 5;echo q 8 2 4 1;valley green 4 1 10 60;");
        CHECK.same("4: two echoes", fair.load(), 2);
        CHECK.same("4: day 0", fair.day(), 0);
        CHECK.state("4: nothing can be undone", fair::undo);
        CHECK.same("4: contracts made", fair.contractsMade(), 0);
        CHECK.same("4: contracts ended", fair.contractsEnded(), 0);
        CHECK.same("4: desertions", fair.desertions(0), 0);
        CHECK.same("4: savings", fair.savingsOf(0), 0);
        CHECK.same("4: unpaid", fair.unpaidDays(0), 0);
        CHECK.same("4: employer", fair.employerOf(0), -1);
        CHECK.same("4: replies", fair.repliesHeard(0), 0);
        CHECK.same("4: wages", fair.wagesPaid(0), 0);
        CHECK.same("4: days served", fair.daysServed(0, 0), 0);
        CHECK.same("4: reason", fair.pairReason(0, 0), 0);
        CHECK.no("4: test", fair.isTested(0, 0));
        CHECK.same("4: money", fair.moneyImbalance(), 0);
        CHECK.same("4: contracts", fair.contractImbalance(), 0);
        CHECK.same("4: output stays", fair.outputByte(0), 'g');
        CHECK.same("4: saved state stays", fair.restore(), 3);
        CHECK.same("4: saved echoes", fair.echoCount(), 4);
        fair.fund(0, 1);
        Check.type(fair, HEAD + ECHO);
        CHECK.argument("4: no valley", fair::load);
        CHECK.same("4: an error changes nothing", fair.day(), 3);
        CHECK.same("4: undo after an error", fair.undo(), 0);
    }

    /** Simulations leave nothing behind that a new configuration would meet. */
    private static void loadAfterSimulations() {
        EchoFair fair = new EchoFair();
        fair.fund(2, 500);
        fair.savingsAfter(0, 119);
        Check.type(fair, "fair 0;");
        CHECK.argument("4: an error first", fair::load);
        CHECK.same("6: error first", fair.errorCode(), 2);
        Check.type(fair, "fair 7;fog 1;echo zaz 3 6 9 5;echo mz 8 2 4 1;echo q 1 1 1 1;"
            + "echo r 1 1 1 1;valley p 4 1 10 60;valley q 4 1 10 60;valley r 4 1 10 60;");
        CHECK.same("4: echoes", fair.load(), 4);
        CHECK.same("6: no error then", fair.errorCode(), 0);
        CHECK.same("7: no error then", fair.errorPosition(), -1);
        CHECK.same("10: day", fair.day(), 0);
        CHECK.same("42: made", fair.contractsMade(), 0);
        CHECK.same("43: ended", fair.contractsEnded(), 0);
        CHECK.same("47: money", fair.moneyImbalance(), 0);
        CHECK.same("62: no contracts", Check.contracts(fair), "p= q= r=");
        for (int echo = 0; echo < 4; echo++) {
            CHECK.same("19: savings", fair.savingsOf(echo), 0);
            CHECK.same("20: unpaid", fair.unpaidDays(echo), 0);
            CHECK.same("21: employer", fair.employerOf(echo), -1);
            CHECK.same("44: desertions", fair.desertions(echo), 0);
            for (int valley = 0; valley < 3; valley++) {
                CHECK.same("41: served", fair.daysServed(valley, echo), 0);
                CHECK.same("30: reason", fair.pairReason(valley, echo), 0);
                CHECK.same("45: replies", fair.repliesHeard(valley), 0);
                CHECK.same("46: wages", fair.wagesPaid(valley), 0);
            }
        }
        Check.type(fair, "zaz");
        CHECK.same("13: a name with z", fair.findEcho(), 0);
    }

    private static void loadSyntax() {
        CHECK.badLoad("", 1, 0);
        CHECK.badLoad("   ", 1, 3);
        CHECK.badLoad("fairy 5;", 1, 0);
        CHECK.badLoad("fai", 1, 0);
        CHECK.badLoad("hair 5;", 1, 0);
        CHECK.badLoad("fain 5;", 1, 0);
        CHECK.badLoad("Fair 5;", 1, 0);
        CHECK.badLoad("fair;", 1, 4);
        CHECK.badLoad("fair 00005;", 1, 5);
        CHECK.badLoad("fair 99999999999;", 1, 5);
        CHECK.badLoad("fair 5 5;", 1, 7);
        CHECK.badLoad("fair 5,", 1, 6);
        CHECK.badLoad("fair \u0001", 1, 5);
        CHECK.badLoad("fair \u00e4", 1, 5);
        CHECK.badLoad("fair 5;echo", 1, 7);
        CHECK.badLoad("fair 5;fog;", 1, 10);
        CHECK.badLoad("fair 5;fog a;", 1, 11);
        CHECK.badLoad("fair 5;fog 1 a;", 1, 13);
        CHECK.badLoad("fair 5;fog 1 10000;", 1, 13);
        CHECK.badLoad("fair 5;fog 1-", 1, 12);
        CHECK.badLoad(HEAD, 1, 13);
        CHECK.badLoad(HEAD + "  ", 1, 15);
        CHECK.badLoad(HEAD + ";", 1, 13);
        CHECK.badLoad(HEAD + "5", 1, 13);
        CHECK.badLoad(HEAD + "fog 5;", 1, 13);
        CHECK.badLoad(HEAD + "echos a 1 1 1 1;", 1, 13);
        CHECK.badLoad(HEAD + ECHO, 1, 28);
        CHECK.badLoad(HEAD + ECHO + " ", 1, 29);
        CHECK.badLoad(HEAD + VALLEY, 1, 30);
        CHECK.badLoad(HEAD + ECHO + VALLEY + "tested b a", 1, 55);
        CHECK.badLoad(HEAD + "echo abcdefg 1 1 1 1;", 1, 18);
        CHECK.badLoad(HEAD + "echo 1 1 1 1 1;", 1, 18);
        CHECK.badLoad(HEAD + "echo a a 1 1 1;", 1, 20);
        CHECK.badLoad(HEAD + "echo a 1 1 1 1 1;", 1, 28);
        CHECK.badLoad(HEAD + "echo a 1 1 1;", 1, 25);
        CHECK.badLoad(HEAD + "valley abcdefg 1 1 1 1;", 1, 20);
        CHECK.badLoad(HEAD + "valley ; 1 1 1 1;", 1, 20);
        CHECK.badLoad(HEAD + "valley a 1 1 1 00000;", 1, 28);
        CHECK.badLoad(HEAD + "valley a 1 1 1 1 valley", 1, 30);
        CHECK.badLoad(HEAD + ECHO + VALLEY + "tested abcdefg a;", 1, 52);
        CHECK.badLoad(HEAD + ECHO + VALLEY + "tested b abcdefg;", 1, 54);
        CHECK.badLoad(HEAD + ECHO + VALLEY + "tested b a a;", 1, 56);
        CHECK.badLoad(HEAD + "tested 1", 1, 20);
        CHECK.same("4: names of six letters",
            Check.loaded(HEAD + "echo abcdef 1 1 1 0;valley ghijkl 1 1 1 0;").echoCount(), 1);
    }

    private static void loadRanges() {
        CHECK.badLoad("fair 0;", 2, 5);
        CHECK.badLoad("fair 31;", 2, 5);
        CHECK.badLoad("fair 9999;", 2, 5);
        CHECK.badLoad("fair 5;fog 10;", 2, 11);
        CHECK.badLoad("fair 5;fog 1 2 10;", 2, 15);
        String[] echoes = {"0 1 1 1", "10 1 1 1", "1 0 1 1", "1 10 1 1", "1 1 0 1", "1 1 100 1",
            "1 1 1 10"};
        int[] places = {0, 0, 2, 2, 4, 4, 6};
        for (int i = 0; i < echoes.length; i++) {
            CHECK.badLoad(HEAD + "echo a " + echoes[i] + ";", 2, 20 + places[i]);
        }
        String[] valleys = {"0 1 1 1", "10 1 1 1", "1 0 1 1", "1 4 1 1", "1 1 0 1", "1 1 100 1"};
        for (int i = 0; i < valleys.length; i++) {
            CHECK.badLoad(HEAD + "valley a " + valleys[i] + ";", 2, 22 + places[i]);
        }
        Check.loaded("fair 30;fog 0 9;echo a 9 9 99 9;valley b 9 3 99 9999;");
        Check.loaded("fair 1;fog 9 0;echo a 1 1 1 0;valley b 1 1 1 0;");
    }

    private static void loadNames() {
        CHECK.badLoad(HEAD + ECHO + "echo a 1 1 1 0;", 3, 33);
        CHECK.badLoad(HEAD + VALLEY + "valley b 1 1 1 0;", 3, 37);
        CHECK.badLoad(HEAD + "tested b a;", 3, 20);
        CHECK.badLoad(HEAD + VALLEY + "tested b a;", 3, 39);
        CHECK.badLoad(HEAD + ECHO + "tested a a;", 3, 35);
        CHECK.badLoad(HEAD + ECHO + VALLEY + "tested b b;", 3, 54);
        CHECK.badLoad(HEAD + VALLEY + ECHO + "tested b aa;", 3, 54);
    }

    private static void loadLimits() {
        CHECK.badLoad("fair 5;fog 0 1 2 3 4 5 6 7 8 9 0 1 2;", 4, 35);
        CHECK.badLoad("fair 5;fog 0 1 2 3 4 5 6 7 8 9 0 1 10;", 2, 35);
        CHECK.badLoad("fair 5;fog 0 1 2 3 4 5 6 7 8 9 0 1 00000;", 1, 35);
        CHECK.badLoad("fair 5;fog 0 1 2 3 4 5 6 7 8 9 0 1 a;", 1, 35);
        CHECK.badLoad("fair 5;fog 0 1 2 3 4 5 6 7 8 9 0 1", 1, 34);
        StringBuilder text = new StringBuilder(HEAD);
        for (char name = 'a'; name <= 'l'; name++) {
            text.append("echo ").append(name).append(" 1 1 1 0;");
        }
        CHECK.same("4: twelve echoes", Check.loaded(text + VALLEY).echoCount(), 12);
        CHECK.badLoad(text + "echo", 4, text.length());
        CHECK.badLoad(text + VALLEY + " echo 1", 4, text.length() + VALLEY.length() + 1);
        CHECK.badLoad(text + "echoo", 1, text.length());
        text = new StringBuilder(HEAD);
        for (char name = 'a'; name <= 'h'; name++) {
            text.append("valley ").append(name).append(" 1 1 1 0;");
        }
        CHECK.same("4: eight valleys", Check.loaded(text + ECHO).valleyCount(), 8);
        CHECK.badLoad(text + "valley", 4, text.length());
        CHECK.badLoad(text + "valleys", 1, text.length());
    }

    private static void commands() {
        EchoFair fair = new EchoFair();
        CHECK.same("5: no commands", Check.run(fair, ""), 0);
        CHECK.same("5: is an operation", fair.undo(), 0);
        CHECK.same("5: spaces", Check.run(fair, "    "), 0);
        CHECK.same("5: all kinds", Check.run(fair, "test old bell; fair;dismiss bell;wage deep 99;"
            + "fund green0999;pass 60 ;train horn;"), 7);
        CHECK.same("5: empty buffer", fair.append(0, 0, 0, 0, 0), 20);
        CHECK.same("5: pass", fair.day(), 60);
        CHECK.yes("5: test", fair.isTested(2, 2));
        CHECK.same("5: wage", fair.wageOf(1), 99);
        CHECK.same("5: train", fair.repeatsOf(3), 6);
        CHECK.same("5: money", fair.moneyImbalance(), 0);
        CHECK.same("5: one operation", fair.undo(), 1);
        CHECK.same("5: undone", fair.wageOf(1), 8);
        CHECK.same("5: undone fund", fair.purseOf(0), 60);
        CHECK.same("5: undone train", fair.repeatsOf(3), 5);
        CHECK.no("5: undone test", fair.isTested(2, 2));
        fair.truncate(0);
        String[] stops = {"test green yodel;", "dismiss bell;", "train bell;", "test old mumble;"};
        for (int i = 0; i < stops.length; i++) {
            EchoFair stopped = new EchoFair();
            String first = i == 3 ? "wage old 1;wage green 3;fair;test deep yodel;test deep mumble;"
                : "wage old 7;";
            CHECK.same("5: stops at " + stops[i], Check.run(stopped, first + stops[i]
                + "wage old 9;"), i == 3 ? 4 : 1);
            CHECK.same("5: effect before " + stops[i], stopped.wageOf(2), i == 3 ? 1 : 7);
            CHECK.same("6: no error at " + stops[i], stopped.errorCode(), 0);
            CHECK.same("7: no error at " + stops[i], stopped.errorPosition(), -1);
        }
        EchoFair twice = new EchoFair();
        CHECK.same("5: first text", Check.run(twice, "fund old 1;fair;dismiss horn;"), 3);
        CHECK.same("5: dismissed", twice.employerOf(3), -1);
        CHECK.same("5: second text", Check.run(twice, "fund old 2;"), 1);
        CHECK.same("5: purse", twice.purseOf(2), 33);
        CHECK.same("5: fund is no cost", twice.moneyImbalance(), 0);
        EchoFair employed = new EchoFair();
        CHECK.same("5: no test with a contract", Check.run(employed, "fair;test green horn;"), 1);
        CHECK.same("5: trained to nine", Check.run(new EchoFair(),
            "wage green 99;fund green 999;fund green 999;pass 1;train yodel;train yodel;"
            + "train yodel;train yodel;"), 7);
        CHECK.argument("4: commands are no configuration", () -> {
            Check.type(employed, "pass 1;");
            employed.load();
        });
    }

    private static void commandErrors() {
        CHECK.badCommands(";", 1, 0);
        CHECK.badCommands("5", 1, 0);
        CHECK.badCommands("fair", 1, 4);
        CHECK.badCommands("fair;pass", 1, 9);
        CHECK.badCommands("fair;fair?", 1, 9);
        CHECK.badCommands("fairs;", 1, 0);
        CHECK.badCommands("pass;", 1, 4);
        CHECK.badCommands("pass green;", 1, 5);
        CHECK.badCommands("pass 00001;", 1, 5);
        CHECK.badCommands("pass 0;", 2, 5);
        CHECK.badCommands("pass 61;", 2, 5);
        CHECK.badCommands("pass 60 1;", 1, 8);
        CHECK.badCommands("test yodel yodel;", 3, 5);
        CHECK.badCommands("test green green;", 3, 11);
        CHECK.badCommands("test greenes;", 1, 5);
        CHECK.badCommands("test green yodelee;", 1, 11);
        CHECK.badCommands("test green 1;", 1, 11);
        CHECK.badCommands("dismiss green;", 3, 8);
        CHECK.badCommands("dismiss yodel yodel;", 1, 14);
        CHECK.badCommands("dismis yodel;", 1, 0);
        CHECK.badCommands("wage yodel 1;", 3, 5);
        CHECK.badCommands("wage green 0;", 2, 11);
        CHECK.badCommands("wage green 100;", 2, 11);
        CHECK.badCommands("wage green 10000;", 1, 11);
        CHECK.badCommands("fund green 0;", 2, 11);
        CHECK.badCommands("fund green 1000;", 2, 11);
        CHECK.badCommands("fund 1 1;", 1, 5);
        CHECK.badCommands("train green;", 3, 6);
        CHECK.badCommands("train yodel", 1, 11);
        CHECK.badCommands("wage green 5;train", 1, 18);
        EchoFair fair = new EchoFair();
        fair.fund(0, 1);
        Check.type(fair, "fund green 5;pass 0;");
        CHECK.argument("5: an error behind a command", fair::executeCommands);
        CHECK.same("5: nothing changes", fair.purseOf(0), 61);
        CHECK.same("5: undo stays", fair.undo(), 0);
        CHECK.same("6: undo leaves the code", fair.errorCode(), 2);
        CHECK.same("7: undo leaves the position", fair.errorPosition(), 18);
    }

    private static void commandLimits() {
        StringBuilder text = new StringBuilder();
        for (int i = 0; i < 30; i++) {
            text.append("fair;");
        }
        CHECK.same("5: thirty commands", Check.run(new EchoFair(), text.toString()), 30);
        CHECK.same("5: thirty and spaces", Check.run(new EchoFair(), text + "  "), 30);
        String[] names = {"pass", "fair", "test", "dismiss", "wage", "fund", "train"};
        for (String name : names) {
            CHECK.badCommands(text + " " + name, 4, 151);
        }
        CHECK.badCommands(text + "echo", 1, 150);
        CHECK.badCommands(text + ";", 1, 150);
        CHECK.badCommands(text + "1", 1, 150);
    }

    private static void find() {
        EchoFair fair = new EchoFair();
        CHECK.same("13: empty", fair.findEcho(), -1);
        CHECK.same("14: empty", fair.findValley(), -1);
        String[] texts = {"yodel", "mumble", "bell", "horn", "green", "deep", "old", "yode",
            "yodels", "yodel ", " yodel", "mumbles", "mumblemumble", "bel\u0000", "\u0000bell",
            "\u0001old", "yodel;", "OLD", "o", "aaaaaaaaaaaaaaaaaaaaaaaaaaaold"};
        for (int i = 0; i < texts.length; i++) {
            fair.truncate(0);
            Check.type(fair, texts[i]);
            CHECK.same("13: " + texts[i], fair.findEcho(), i < 4 ? i : -1);
            CHECK.same("14: " + texts[i], fair.findValley(), i >= 4 && i < 7 ? i - 4 : -1);
            CHECK.same("13: buffer", fair.truncate(texts[i].length()), texts[i].length());
        }
    }

    private static void contracts() {
        EchoFair fair = new EchoFair();
        CHECK.same("63: before", fair.outputByte(0), -1);
        CHECK.same("62: length", fair.formatContracts(), 17);
        CHECK.same("63: negative", fair.outputByte(-1), -1);
        CHECK.same("63: first", fair.outputByte(0), 'g');
        CHECK.same("63: equals", fair.outputByte(5), 61);
        CHECK.same("63: space", fair.outputByte(6), 32);
        CHECK.same("63: last", fair.outputByte(16), 61);
        CHECK.same("63: behind", fair.outputByte(17), -1);
        CHECK.same("63: far behind", fair.outputByte(Integer.MAX_VALUE), -1);
        CHECK.same("63: far before", fair.outputByte(Integer.MIN_VALUE), -1);
        fair.holdFair();
        CHECK.same("63: output stays", fair.outputByte(6), 32);
        CHECK.same("62: hired", Check.contracts(fair), "green=yodel deep=mumble old=horn");
        fair.undo();
        CHECK.same("63: undo leaves the output", fair.outputByte(6), 'y');
        CHECK.same("62: shorter again", fair.formatContracts(), 17);
        CHECK.same("63: behind the shorter", fair.outputByte(17), -1);
        EchoFair order = Check.loaded("fair 9;fog 0;echo a 1 1 9 9;echo b 1 1 1 9;echo c 1 1 4 9;"
            + "valley v 1 3 1 0;");
        order.holdFair();
        order.setWage(0, 9);
        order.holdFair();
        CHECK.same("62: oldest first", Check.contracts(order), "v=b+a+c");
        order.dismiss(0);
        order.holdFair();
        CHECK.same("62: hired again", Check.contracts(order), "v=b+c+a");
        CHECK.same("62: most", mostOutput().formatContracts(), 8 * 7 + 7 + 12 * 6 + 8);
    }

    /** All names have six letters, and four valleys have three echoes each. */
    private static EchoFair mostOutput() {
        StringBuilder text = new StringBuilder("fair 9;fog 9;");
        for (char name = 'a'; name <= 'l'; name++) {
            text.append("echo ").append(name).append("xxxxx 1 1 1 0;");
        }
        for (char name = 'a'; name <= 'h'; name++) {
            text.append("valley ").append(name).append("xxxxx 1 3 1 0;");
        }
        EchoFair fair = Check.loaded(text.toString());
        fair.holdFair();
        return fair;
    }
}
