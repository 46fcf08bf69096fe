/** The edges of promises 1 to 3 and 8 to 32: a test for each sentence. */
public final class EdgeQueriesTest {
    private static final Check CHECK = new Check("EdgeQueriesTest");
    private static final Numbers NUMBERS = new Numbers(CHECK);
    private static final String HEAD = "fair 30;fog 0;";
    private static final String NO_ECHO =
        "Throws `IndexOutOfBoundsException` if there is no such echo";
    private static final String NO_VALLEY =
        "Throws `IndexOutOfBoundsException` if there is no such valley";
    private static final String NO_PAIR =
        "Throws `IndexOutOfBoundsException` if there is no such valley or echo";

    public static void main(String[] args) {
        all(Edges.running(CHECK));
        CHECK.finish();
    }

    static void all(Edges edges) {
        constants(edges);
        buffer(edges);
        clock(edges);
        names(edges);
        echoes(edges);
        valleys(edges);
        pairs(edges);
        preferences(edges);
    }

    private static void constants(Edges edges) {
        edges.section("Terms");
        edges.holds("`NONE = -1`: Returned if there is no such value.", EdgeQueriesTest::none);
        edges.holds("`SYNTAX_ERROR = 1`: Error code: an unexpected token or byte.",
            () -> CHECK.badLoad("fair ;", EchoFair.SYNTAX_ERROR, 5));
        edges.holds("`RANGE_ERROR = 2`: Error code: a number is out of range.",
            () -> CHECK.badLoad("fair 31;", EchoFair.RANGE_ERROR, 5));
        edges.holds("`NAME_ERROR = 3`: Error code: a name cannot be used.",
            () -> CHECK.badCommands("train green;", EchoFair.NAME_ERROR, 6));
        edges.holds("`LIMIT_ERROR = 4`: Error code: a limit is exceeded.",
            () -> CHECK.badCommands("fair;".repeat(31), EchoFair.LIMIT_ERROR, 150));
        edges.holds("`WAGE_TOO_LOW = 1`: Reason: the wage is less than the reserve wage.",
            EdgeQueriesTest::wageTooLow);
        edges.holds("`SCORE_TOO_LOW = 2`: Reason: the seen score is less than 1.",
            EdgeQueriesTest::scoreTooLow);
        edges.holds("`DESERTED = 3`: Reason: the echo has deserted the valley in the current"
            + " season.", EdgeQueriesTest::desertedThisSeason);
    }

    private static void buffer(Edges edges) {
        edges.section("Promise 1");
        edges.holds("with an empty input buffer, an empty output and no saved state.",
            EdgeQueriesTest::newObject);
        edges.section("Promise 2");
        edges.holds("Appends 20 bytes to the input buffer: the four bytes of each parameter, the"
            + " most significant byte first.", EdgeQueriesTest::placesOfTheBytes);
        String[] parameters = {"`a`: bytes 0 to 3", "`b`: bytes 4 to 7", "`c`: bytes 8 to 11",
            "`d`: bytes 12 to 15", "`e`: bytes 16 to 19"};
        for (int i = 0; i < parameters.length; i++) {
            int parameter = i;
            edges.holds(parameters[i], () -> bytesOf(parameter));
        }
        edges.holds("Returns the new length of the input buffer.", EdgeQueriesTest::newLengths);
        edges.holds("Throws `IllegalStateException` if the new length would exceed 900",
            EdgeQueriesTest::fullBuffer);
        edges.section("Promise 3");
        edges.holds("Returns the new length.", EdgeQueriesTest::shortened);
        edges.holds("Throws `IllegalArgumentException` if length is negative or greater than the"
            + " current length", EdgeQueriesTest::noSuchLength);
    }

    private static void clock(Edges edges) {
        edges.section("Promise 8");
        edges.holds("Returns 1 to 12.", EdgeQueriesTest::oneToTwelveEchoes);
        edges.section("Promise 9");
        edges.holds("Returns 1 to 8.", EdgeQueriesTest::oneToEightValleys);
        edges.section("Promise 10");
        edges.holds("Returns the number of days that have passed.", EdgeQueriesTest::daysPassed);
        edges.section("Promise 11");
        edges.holds("Returns 1 to 30.", EdgeQueriesTest::lengthsOfSeasons);
        edges.section("Promise 12");
        edges.holds("`day`: a day, 0 to 9999", EdgeQueriesTest::everyDayHasFog);
        edges.holds("Returns 0 to 9.", EdgeQueriesTest::levelsOfFog);
        edges.holds("Throws `IllegalArgumentException` if day is out of range",
            EdgeQueriesTest::noSuchDay);
    }

    private static void names(Edges edges) {
        edges.section("Promise 13");
        edges.holds("Finds the echo whose name is the whole input buffer, which does not change.",
            () -> wholeBuffer("yodel", "mumble", true));
        edges.holds("Returns the number of the echo, or NONE if there is none.",
            EdgeQueriesTest::echoNames);
        edges.section("Promise 14");
        edges.holds("Finds the valley whose name is the whole input buffer, which does not"
            + " change.", () -> wholeBuffer("green", "deep", false));
        edges.holds("Returns the number of the valley, or NONE if there is none.",
            EdgeQueriesTest::valleyNames);
    }

    private static void echoes(Edges edges) {
        edges.section("Promise 15");
        edges.holds("Returns 1 to 9.", () -> CHECK.same("delays",
            range(echoFair(0, 1, 9), EchoFair::delayOf), "1 9 "));
        edges.holds(NO_ECHO, () -> NUMBERS.ofEchoes(EchoFair::delayOf));
        edges.section("Promise 16");
        edges.holds("Returns 1 to 9.", EdgeQueriesTest::oneToNineRepeats);
        edges.holds(NO_ECHO, () -> NUMBERS.ofEchoes(EchoFair::repeatsOf));
        edges.section("Promise 17");
        edges.holds("Returns 1 to 99.", () -> CHECK.same("reserve wages",
            range(echoFair(2, 1, 99), EchoFair::reserveWage), "1 99 "));
        edges.holds(NO_ECHO, () -> NUMBERS.ofEchoes(EchoFair::reserveWage));
        edges.section("Promise 18");
        edges.holds("Returns 0 to 9.", () -> CHECK.same("resistances",
            range(echoFair(3, 0, 9), EchoFair::resistanceOf), "0 9 "));
        edges.holds(NO_ECHO, () -> NUMBERS.ofEchoes(EchoFair::resistanceOf));
        edges.section("Promise 19");
        edges.holds("Returns the savings, never negative.", EdgeQueriesTest::savings);
        edges.holds(NO_ECHO, () -> NUMBERS.ofEchoes(EchoFair::savingsOf));
        edges.section("Promise 20");
        edges.holds("Returns 0 or 1.", EdgeQueriesTest::unpaidDays);
        edges.holds(NO_ECHO, () -> NUMBERS.ofEchoes(EchoFair::unpaidDays));
        edges.section("Promise 21");
        edges.holds("Returns the number of the valley, or NONE without a contract.",
            EdgeQueriesTest::employers);
        edges.holds(NO_ECHO, () -> NUMBERS.ofEchoes(EchoFair::employerOf));
    }

    private static void valleys(Edges edges) {
        edges.section("Promise 22");
        edges.holds("Returns 1 to 9.", () -> CHECK.same("widths",
            range(valleyFair(0, 1, 9), EchoFair::widthOf), "1 9 "));
        edges.holds(NO_VALLEY, () -> NUMBERS.ofValleys(EchoFair::widthOf));
        edges.section("Promise 23");
        edges.holds("Returns 1 to 3.", () -> CHECK.same("posts",
            range(valleyFair(1, 1, 3), EchoFair::postsOf), "1 3 "));
        edges.holds(NO_VALLEY, () -> NUMBERS.ofValleys(EchoFair::postsOf));
        edges.section("Promise 24");
        edges.holds("Returns 1 to 99.", EdgeQueriesTest::wages);
        edges.holds(NO_VALLEY, () -> NUMBERS.ofValleys(EchoFair::wageOf));
        edges.section("Promise 25");
        edges.holds("Returns the money in the purse, never negative.", EdgeQueriesTest::purses);
        edges.holds(NO_VALLEY, () -> NUMBERS.ofValleys(EchoFair::purseOf));
        edges.section("Promise 26");
        edges.holds("Returns 0 to 3.", EdgeQueriesTest::staffCounts);
        edges.holds(NO_VALLEY, () -> NUMBERS.ofValleys(EchoFair::staffCount));
        edges.section("Promise 27");
        edges.holds("`index`: 0 for the echo with the oldest contract",
            EdgeQueriesTest::oldestContract);
        edges.holds("Returns the number of the echo, or NONE if there is no such echo.",
            EdgeQueriesTest::noSuchStaff);
        edges.holds(NO_VALLEY, EdgeQueriesTest::staffOfNoValley);
    }

    private static void pairs(Edges edges) {
        edges.section("Promise 28");
        edges.holds("Returns whether it has.", EdgeQueriesTest::tested);
        edges.holds(NO_PAIR, () -> NUMBERS.ofPairs(EchoFair::isTested));
        edges.section("Promise 29");
        edges.holds("Returns the seen score, possibly negative.", EdgeQueriesTest::scores);
        edges.holds(NO_PAIR, () -> NUMBERS.ofPairs(EchoFair::seenScore));
        edges.section("Promise 30");
        edges.holds("Returns the first reason that applies of WAGE_TOO_LOW, SCORE_TOO_LOW and"
            + " DESERTED, or ACCEPTABLE.", EdgeQueriesTest::firstReason);
        edges.holds(NO_PAIR, () -> NUMBERS.ofPairs(EchoFair::pairReason));
    }

    private static void preferences(Edges edges) {
        edges.section("Promise 31");
        edges.holds("`rank`: 0 for the valley that the echo prefers most",
            () -> CHECK.same("of equal wages the smaller number",
                threeWages().preferredValley(0, 0), 1));
        edges.holds("Returns the number of the valley, or NONE if there are not so many"
            + " acceptable valleys.", EdgeQueriesTest::notSoManyValleys);
        edges.holds(NO_ECHO, EdgeQueriesTest::valleysOfNoEcho);
        edges.section("Promise 32");
        edges.holds("`rank`: 0 for the echo that the valley prefers most",
            () -> CHECK.same("of equal scores the smaller number",
                threeScores().preferredEcho(0, 0), 1));
        edges.holds("Returns the number of the echo, or NONE if there are not so many.",
            EdgeQueriesTest::notSoManyEchoes);
        edges.holds(NO_VALLEY, EdgeQueriesTest::echoesOfNoValley);
    }

    private interface Query {
        int of(EchoFair fair, int number);
    }

    private static String range(EchoFair fair, Query query) {
        return query.of(fair, 0) + " " + query.of(fair, 1) + " ";
    }

    /** Two echoes that differ in one of their four numbers. */
    private static EchoFair echoFair(int place, int first, int second) {
        String text = HEAD + "valley v 1 1 1 0;";
        for (int echo = 0; echo < 2; echo++) {
            int[] numbers = {5, 5, 50, 5};
            numbers[place] = echo == 0 ? first : second;
            text += "echo " + (char) ('a' + echo) + " " + numbers[0] + " " + numbers[1] + " "
                + numbers[2] + " " + numbers[3] + ";";
        }
        return Check.loaded(text);
    }

    /** Two valleys that differ in one of their four numbers. */
    private static EchoFair valleyFair(int place, int first, int second) {
        String text = HEAD + "echo e 1 1 1 0;";
        for (int valley = 0; valley < 2; valley++) {
            int[] numbers = {5, 2, 50, 5};
            numbers[place] = valley == 0 ? first : second;
            text += "valley " + (char) ('a' + valley) + " " + numbers[0] + " " + numbers[1] + " "
                + numbers[2] + " " + numbers[3] + ";";
        }
        return Check.loaded(text);
    }

    private static void none() {
        CHECK.same("the constant", EchoFair.NONE, -1);
        EchoFair fair = new EchoFair();
        CHECK.same("no error position", fair.errorPosition(), -1);
        CHECK.same("no employer", fair.employerOf(0), -1);
        CHECK.same("no output", fair.outputByte(0), -1);
        CHECK.same("no name", fair.findEcho(), -1);
    }

    private static void wageTooLow() {
        EchoFair fair = Check.loaded(HEAD + "echo a 1 1 2 0;valley v 1 1 1 0;valley w 1 1 2 0;");
        CHECK.same("1 is less than 2", fair.pairReason(0, 0), EchoFair.WAGE_TOO_LOW);
        CHECK.same("2 is not", fair.pairReason(1, 0), EchoFair.ACCEPTABLE);
    }

    private static void scoreTooLow() {
        EchoFair fair = Check.loaded(HEAD + "echo a 6 2 1 0;echo b 3 1 1 0;valley v 1 1 1 0;"
            + "tested v a;tested v b;");
        CHECK.same("0 is less than 1", fair.pairReason(0, 0), EchoFair.SCORE_TOO_LOW);
        CHECK.same("2 is not", fair.pairReason(0, 1), EchoFair.ACCEPTABLE);
    }

    private static void desertedThisSeason() {
        EchoFair fair = Check.loaded("fair 2;fog 9;echo a 1 1 2 0;valley v 1 1 2 0;");
        CHECK.same("not yet", fair.pairReason(0, 0), EchoFair.ACCEPTABLE);
        fair.passDays(2);
        CHECK.same("up to the season's end", fair.pairReason(0, 0), EchoFair.DESERTED);
        fair.fund(0, 2);
        fair.passDays(1);
        CHECK.same("not in the next", fair.pairReason(0, 0), EchoFair.ACCEPTABLE);
    }

    private static void newObject() {
        EchoFair fair = new EchoFair();
        CHECK.argument("an empty buffer", () -> fair.truncate(1));
        CHECK.same("length", fair.truncate(0), 0);
        CHECK.same("no byte of output", fair.outputByte(0), -1);
        CHECK.state("no saved state", fair::restore);
        CHECK.state("no operation", fair::undo);
        CHECK.same("the first bytes", fair.append(0, 0, 0, 0, 0), 20);
        fair.truncate(0);
        CHECK.argument("an empty text is no configuration", fair::load);
        CHECK.same("which ends at once", fair.errorPosition(), 0);
        CHECK.same("four echoes", fair.echoCount(), 4);
        CHECK.same("three valleys", fair.valleyCount(), 3);
    }

    /** An invalid byte at each of the twenty places, also one that is negative as a byte. */
    private static void placesOfTheBytes() {
        int[] signs = {'!', 0, 0x7f, 0x80, 0xff};
        for (int sign : signs) {
            for (int place = 0; place < 20; place++) {
                int[] words = {0x20202020, 0x20202020, 0x20202020, 0x20202020, 0x20202020};
                int shift = 24 - place % 4 * 8;
                words[place / 4] = words[place / 4] & ~(255 << shift) | sign << shift;
                EchoFair fair = new EchoFair();
                fair.append(words[0], words[1], words[2], words[3], words[4]);
                CHECK.argument("byte " + sign + " at " + place, fair::load);
                CHECK.same("place of byte " + sign, fair.errorPosition(), place);
            }
        }
        EchoFair named = new EchoFair();
        named.append(0x796f6465, 0x6c000000, -1, Integer.MIN_VALUE, Integer.MAX_VALUE);
        named.truncate(5);
        CHECK.same("yodel", named.findEcho(), 0);
    }

    /** Bytes 255 from some place of a parameter to its end: the first of them is the error. */
    private static void bytesOf(int parameter) {
        int[] words = {0x20202020, 0x20202020, 0x20202020, 0x20202020, 0x20202020};
        for (int place = 3; place >= 0; place--) {
            words[parameter] |= 255 << 24 - 8 * place;
            EchoFair fair = new EchoFair();
            fair.append(words[0], words[1], words[2], words[3], words[4]);
            CHECK.argument("bytes from " + place, fair::load);
            CHECK.same("place", fair.errorPosition(), 4 * parameter + place);
        }
        int[] name = {0x20202020, 0x20202020, 0x20202020, 0x20202020, 0x20202020};
        name[parameter] = 0x66616972;
        EchoFair fair = new EchoFair();
        fair.append(name[0], name[1], name[2], name[3], name[4]);
        CHECK.argument("a word alone", fair::load);
        CHECK.same("the text ends behind it", fair.errorPosition(), 20);
    }

    private static void newLengths() {
        EchoFair fair = new EchoFair();
        for (int length = 20; length <= 900; length += 20) {
            CHECK.same("length", fair.append(0, -1, 0, -1, 0), length);
        }
        EchoFair other = new EchoFair();
        other.append(0, 0, 0, 0, 0);
        other.truncate(1);
        CHECK.same("from 1", other.append(0, 0, 0, 0, 0), 21);
    }

    private static void fullBuffer() {
        EchoFair fair = new EchoFair();
        for (int i = 0; i < 45; i++) {
            fair.append(0x66616972, 0x20352020, 0x20202020, 0x20202020, 0x20202020);
        }
        CHECK.state("at 900", () -> fair.append(0, 0, 0, 0, 0));
        CHECK.same("900 stay", fair.truncate(900), 900);
        for (int length = 899; length > 880; length--) {
            fair.truncate(length);
            CHECK.state("at " + length, () -> fair.append(0, 0, 0, 0, 0));
            CHECK.same("stays " + length, fair.truncate(length), length);
        }
        fair.truncate(880);
        CHECK.same("at 880", fair.append(0, 0, 0, 0, 0), 900);
        fair.truncate(6);
        CHECK.argument("nothing was written", fair::load);
        CHECK.same("the text ends there", fair.errorPosition(), 6);
    }

    private static void shortened() {
        EchoFair fair = new EchoFair();
        Check.type(fair, "yodelmumble");
        CHECK.same("to its own length", fair.truncate(11), 11);
        CHECK.same("by one", fair.truncate(10), 10);
        CHECK.same("to a name", fair.truncate(5), 5);
        CHECK.same("whose echo is there", fair.findEcho(), 0);
        CHECK.same("to nothing", fair.truncate(0), 0);
        CHECK.same("nothing again", fair.truncate(0), 0);
        fair.append(0x62656c6c, 0, 0, 0, 0);
        fair.truncate(4);
        CHECK.same("the new bytes stand in front", fair.findEcho(), 2);
    }

    private static void noSuchLength() {
        EchoFair fair = new EchoFair();
        int[] none = {-1, 1, 20, 900, Integer.MIN_VALUE, Integer.MAX_VALUE};
        for (int length : none) {
            CHECK.argument("empty, " + length, () -> fair.truncate(length));
        }
        Check.type(fair, "bell");
        int[] outside = {-1, -4, 5, 20, 900, 901, Integer.MIN_VALUE, Integer.MAX_VALUE};
        for (int length : outside) {
            CHECK.argument("four bytes, " + length, () -> fair.truncate(length));
            CHECK.same("four bytes stay", fair.findEcho(), 2);
        }
        EchoFair full = new EchoFair();
        Check.type(full, " ".repeat(900));
        CHECK.argument("full, 901", () -> full.truncate(901));
        CHECK.same("full, 900", full.truncate(900), 900);
        full.truncate(899);
        CHECK.argument("what is cut off is gone", () -> full.truncate(900));
    }

    private static void oneToTwelveEchoes() {
        for (int echoes = 1; echoes <= 12; echoes++) {
            CHECK.same("echoes", Check.loaded(Numbers.crowd(echoes, 1)).echoCount(), echoes);
        }
        CHECK.badLoad(Numbers.crowd(0, 1), 1, Numbers.crowd(0, 1).length());
        CHECK.badLoad(Numbers.crowd(12, 0) + "echo m 1 1 1 0;", 4,
            Numbers.crowd(12, 0).length());
    }

    private static void oneToEightValleys() {
        for (int valleys = 1; valleys <= 8; valleys++) {
            CHECK.same("valleys", Check.loaded(Numbers.crowd(1, valleys)).valleyCount(), valleys);
        }
        CHECK.badLoad(Numbers.crowd(1, 0), 1, Numbers.crowd(1, 0).length());
        CHECK.badLoad(Numbers.crowd(1, 8) + "valley a 1 1 1 0;", 4,
            Numbers.crowd(1, 8).length());
    }

    private static void daysPassed() {
        EchoFair fair = new EchoFair();
        CHECK.same("none", fair.day(), 0);
        fair.passDays(1);
        CHECK.same("one", fair.day(), 1);
        fair.passDays(60);
        CHECK.same("61", fair.day(), 61);
        CHECK.argument("no days", () -> fair.passDays(0));
        CHECK.argument("61 days", () -> fair.passDays(61));
        fair.holdFair();
        fair.savingsAfter(0, 120);
        fair.desertsIn(0);
        CHECK.same("none by refused days, fairs and simulations", fair.day(), 61);
        Check.run(fair, "pass 1;pass 60;");
        CHECK.same("by commands", fair.day(), 122);
        fair.undo();
        CHECK.same("undone", fair.day(), 61);
    }

    private static void lengthsOfSeasons() {
        CHECK.same("at first", new EchoFair().seasonLength(), 5);
        for (int length = 1; length <= 30; length++) {
            String text = "fair " + length + ";fog 0;echo a 1 1 1 0;valley v 1 1 1 0;";
            CHECK.same("length", Check.loaded(text).seasonLength(), length);
        }
        CHECK.badLoad("fair 0;", 2, 5);
        CHECK.badLoad("fair 31;", 2, 5);
    }

    private static void everyDayHasFog() {
        EchoFair fair = Check.loaded("fair 30;fog 1 2 3 4 5 6 7;echo a 1 1 1 0;valley v 1 1 1 0;");
        int[] days = {0, 1, 6, 7, 8, 9995, 9996, 9998, 9999};
        for (int day : days) {
            CHECK.same("fog of " + day, fair.fogOf(day), day % 7 + 1);
        }
        fair.passDays(3);
        CHECK.same("day 0 is the first day, not today", fair.fogOf(0), 1);
    }

    private static void levelsOfFog() {
        EchoFair fair = Check.loaded("fair 30;fog 0 9;echo a 1 1 1 0;valley v 1 1 1 0;");
        CHECK.same("the least", fair.fogOf(0), 0);
        CHECK.same("the greatest", fair.fogOf(1), 9);
        CHECK.badLoad("fair 30;fog 10;", 2, 12);
    }

    private static void noSuchDay() {
        EchoFair fair = new EchoFair();
        int[] days = {-1, -3, 10000, 10002, Integer.MIN_VALUE, Integer.MAX_VALUE};
        for (int day : days) {
            CHECK.argument("fog of " + day, () -> fair.fogOf(day));
        }
        CHECK.same("the first", fair.fogOf(0), 2);
        CHECK.same("the last", fair.fogOf(9999), 2);
    }

    private static int found(EchoFair fair, String text, boolean echo) {
        fair.truncate(0);
        Check.type(fair, text);
        return echo ? fair.findEcho() : fair.findValley();
    }

    private static void wholeBuffer(String first, String second, boolean echo) {
        EchoFair fair = new EchoFair();
        CHECK.same("the first", found(fair, first, echo), 0);
        CHECK.same("the second", found(fair, second, echo), 1);
        String[] none = {"", " ", first + " ", " " + first, first + "\0", "\0" + first,
            first.substring(1), first.substring(0, first.length() - 1), first + "s", first + ";",
            first.toUpperCase(), first + first, first + " " + second, first + " ".repeat(895),
            second + "\0", (char) (first.charAt(0) + 128) + first.substring(1)};
        for (String text : none) {
            CHECK.same("not '" + text + "'", found(fair, text, echo), -1);
            CHECK.same("the length stays", fair.truncate(text.length()), text.length());
            CHECK.argument("and no byte more", () -> fair.truncate(text.length() + 1));
        }
        found(fair, first + second, echo);
        fair.truncate(first.length());
        CHECK.same("the bytes stay", echo ? fair.findEcho() : fair.findValley(), 0);
        CHECK.same("once more", echo ? fair.findEcho() : fair.findValley(), 0);
        CHECK.same("no text was read", fair.errorCode(), 0);
    }

    private static void echoNames() {
        EchoFair fair = Check.loaded(HEAD + "echo a 1 1 1 0;echo aaaaaa 1 1 1 0;echo aa 1 1 1 0;"
            + "valley v 1 1 1 0;valley aaa 1 1 1 0;");
        String[] names = {"a", "aaaaaa", "aa", "aaa", "aaaaa", "aaaaaaa", "v", "yodel", ""};
        int[] due = {0, 1, 2, -1, -1, -1, -1, -1, -1};
        for (int i = 0; i < names.length; i++) {
            CHECK.same("echo '" + names[i] + "'", found(fair, names[i], true), due[i]);
        }
        EchoFair twelve = Check.loaded(Numbers.crowd(12, 8));
        CHECK.same("the last of twelve", found(twelve, "l", true), 11);
        CHECK.same("no thirteenth", found(twelve, "m", true), -1);
    }

    private static void valleyNames() {
        EchoFair fair = Check.loaded(HEAD + "valley a 1 1 1 0;valley aaaaaa 1 1 1 0;"
            + "valley aa 1 1 1 0;echo e 1 1 1 0;echo aaa 1 1 1 0;");
        String[] names = {"a", "aaaaaa", "aa", "aaa", "aaaaa", "aaaaaaa", "e", "green", ""};
        int[] due = {0, 1, 2, -1, -1, -1, -1, -1, -1};
        for (int i = 0; i < names.length; i++) {
            CHECK.same("valley '" + names[i] + "'", found(fair, names[i], false), due[i]);
        }
        EchoFair eight = Check.loaded(Numbers.crowd(12, 8));
        CHECK.same("the last of eight", found(eight, "s", false), 7);
        CHECK.same("no ninth", found(eight, "r", false), -1);
    }

    private static void oneToNineRepeats() {
        CHECK.same("repeats", range(echoFair(1, 1, 9), EchoFair::repeatsOf), "1 9 ");
        EchoFair fair = Check.loaded(HEAD + "echo a 1 8 1 0;valley v 9 1 99 0;");
        fair.setWage(0, 9);
        fair.passDays(30);
        CHECK.same("trained to nine", fair.train(0), 9);
        CHECK.state("and no further", () -> fair.train(0));
        CHECK.same("nine", fair.repeatsOf(0), 9);
    }

    private static void savings() {
        EchoFair fair = Check.loaded(HEAD + "echo a 1 1 10 9;valley v 1 1 10 9;");
        CHECK.same("at first", fair.savingsOf(0), 0);
        CHECK.state("a lesson cannot be paid", () -> fair.train(0));
        CHECK.same("still nothing", fair.savingsOf(0), 0);
        fair.passDays(1);
        CHECK.same("paid", fair.savingsOf(0), 10);
        fair.train(0);
        CHECK.same("all spent", fair.savingsOf(0), 0);
        CHECK.state("nothing is left", () -> fair.train(0));
        fair.passDays(1);
        CHECK.same("an unpaid day takes nothing", fair.savingsOf(0), 0);
    }

    private static void unpaidDays() {
        EchoFair fair = Check.loaded(HEAD + "echo a 1 1 2 9;echo b 1 1 9 9;valley v 1 1 2 0;");
        CHECK.same("at first", fair.unpaidDays(0), 0);
        int[] due = {1, 0, 1, 0};
        for (int day = 0; day < 4; day++) {
            fair.passDays(1);
            CHECK.same("after day " + day, fair.unpaidDays(0), due[day]);
            CHECK.same("without a contract", fair.unpaidDays(1), 0);
        }
        fair.setWage(0, 99);
        fair.passDays(1);
        CHECK.same("one unpaid day", fair.unpaidDays(0), 1);
        fair.passDays(1);
        CHECK.same("two unpaid days are none", fair.unpaidDays(0), 0);
        CHECK.same("for it deserted", fair.desertions(0), 1);
        EchoFair foggy = Check.loaded("fair 30;fog 9;echo a 1 1 2 0;valley v 1 1 2 0;");
        foggy.passDays(1);
        CHECK.same("nor is one in fog", foggy.unpaidDays(0), 0);
    }

    private static void employers() {
        EchoFair fair = Check.loaded(Numbers.crowd(12, 8));
        CHECK.same("at first", fair.employerOf(0), -1);
        fair.holdFair();
        for (int echo = 0; echo < 12; echo++) {
            CHECK.same("echo " + echo, fair.employerOf(echo), echo < 8 ? echo : -1);
        }
        fair.dismiss(0);
        CHECK.same("dismissed from valley 0", fair.employerOf(0), -1);
        CHECK.same("the last valley", fair.employerOf(7), 7);
        EchoFair lost = Check.loaded("fair 30;fog 9;echo a 1 1 2 0;valley v 1 1 2 0;");
        lost.passDays(1);
        CHECK.same("deserted", lost.employerOf(0), -1);
    }

    private static void wages() {
        CHECK.same("wages", range(valleyFair(2, 1, 99), EchoFair::wageOf), "1 99 ");
        EchoFair fair = new EchoFair();
        fair.setWage(0, 1);
        CHECK.argument("100", () -> fair.setWage(0, 100));
        CHECK.argument("0", () -> fair.setWage(0, 0));
        CHECK.same("the least", fair.wageOf(0), 1);
        fair.setWage(0, 99);
        CHECK.same("the greatest", fair.wageOf(0), 99);
        CHECK.same("of another", fair.wageOf(1), 8);
    }

    private static void purses() {
        CHECK.same("purses", range(valleyFair(3, 0, 9999), EchoFair::purseOf), "0 9999 ");
        EchoFair fair = Check.loaded(HEAD + "echo a 1 3 5 9;valley v 2 1 5 9;");
        fair.passDays(1);
        CHECK.same("the pay took all", fair.purseOf(0), 0);
        fair.passDays(1);
        CHECK.same("too little for the pay", fair.purseOf(0), 6);
        fair.fund(0, 2);
        fair.passDays(1);
        CHECK.same("a coin too little", fair.purseOf(0), 14);
        fair.passDays(1);
        CHECK.same("it deserted, and nobody earns", fair.purseOf(0), 14);
    }

    private static void staffCounts() {
        EchoFair fair = Check.loaded(HEAD + "echo a 1 1 1 0;echo b 1 1 2 0;echo c 1 1 3 0;"
            + "echo d 1 1 4 0;valley v 1 3 1 0;valley w 1 1 1 0;");
        CHECK.same("none", fair.staffCount(0), 0);
        int[] due = {1, 2, 3, 3};
        for (int wage = 1; wage <= 4; wage++) {
            fair.setWage(0, wage);
            fair.holdFair();
            CHECK.same("with wage " + wage, fair.staffCount(0), due[wage - 1]);
        }
        CHECK.same("nobody wants so little", fair.staffCount(1), 0);
        for (int echo = 0; echo < 3; echo++) {
            fair.dismiss(echo);
            CHECK.same("dismissed", fair.staffCount(0), 2 - echo);
        }
    }

    /** The valley v hires c, then a, then b. */
    private static EchoFair hiredInTurn() {
        EchoFair fair = Check.loaded(HEAD + "echo a 1 1 2 0;echo b 1 1 3 0;echo c 1 1 1 0;"
            + "valley v 1 3 1 0;valley w 1 3 1 0;");
        for (int wage = 1; wage <= 3; wage++) {
            fair.setWage(0, wage);
            fair.holdFair();
        }
        return fair;
    }

    private static void oldestContract() {
        EchoFair fair = hiredInTurn();
        int[] order = {2, 0, 1};
        for (int index = 0; index < 3; index++) {
            CHECK.same("index " + index, fair.staffMember(0, index), order[index]);
        }
        fair.dismiss(2);
        CHECK.same("then a is the oldest", fair.staffMember(0, 0), 0);
        CHECK.same("then b", fair.staffMember(0, 1), 1);
        fair.holdFair();
        CHECK.same("c is the youngest now", fair.staffMember(0, 2), 2);
        fair.dismiss(0);
        CHECK.same("without the oldest", fair.staffMember(0, 0), 1);
        CHECK.same("and the youngest", fair.staffMember(0, 1), 2);
    }

    private static void noSuchStaff() {
        EchoFair fair = hiredInTurn();
        int[] outside = {-1, -3, 3, 4, 12, 32, Integer.MIN_VALUE, Integer.MAX_VALUE};
        for (int index : outside) {
            CHECK.same("index " + index, fair.staffMember(0, index), -1);
            CHECK.same("no staff, " + index, fair.staffMember(1, index), -1);
        }
        for (int left = 2; left >= 0; left--) {
            fair.dismiss(fair.staffMember(0, left));
            CHECK.same("behind the last of " + left, fair.staffMember(0, left), -1);
            for (int index = 0; index < left; index++) {
                CHECK.yes("of " + left, fair.staffMember(0, index) >= 0);
            }
        }
    }

    private static void staffOfNoValley() {
        int[] indexes = {-1, 0, 2, 3, Integer.MIN_VALUE, Integer.MAX_VALUE};
        for (int index : indexes) {
            NUMBERS.ofValleys((fair, valley) -> fair.staffMember(valley, index));
        }
    }

    private static void tested() {
        EchoFair fair = Check.loaded(Numbers.crowd(12, 8) + "tested z l;tested s a;");
        for (int valley = 0; valley < 8; valley++) {
            for (int echo = 0; echo < 12; echo++) {
                boolean due = valley == 0 && echo == 11 || valley == 7 && echo == 0;
                CHECK.same("pair " + valley + " " + echo, fair.isTested(valley, echo) ? 1 : 0,
                    due ? 1 : 0);
            }
        }
        fair.test(7, 11);
        CHECK.yes("the last pair", fair.isTested(7, 11));
        fair.undo();
        CHECK.no("undone", fair.isTested(7, 11));
    }

    private static void scores() {
        EchoFair fair = Check.loaded(HEAD + "echo a 9 1 1 0;echo b 9 9 1 0;echo c 6 2 1 0;"
            + "valley v 1 1 1 0;valley w 9 1 1 0;tested v a;tested v c;tested w b;");
        CHECK.same("the least", fair.seenScore(0, 0), -22);
        CHECK.same("nothing", fair.seenScore(0, 2), 0);
        CHECK.same("the greatest", fair.seenScore(1, 1), 90);
        CHECK.same("untested", fair.seenScore(1, 0), 30);
    }

    /** Each of the eight ways in which the three reasons may apply. */
    private static void firstReason() {
        for (int reasons = 0; reasons < 8; reasons++) {
            boolean wage = (reasons & 1) != 0;
            boolean score = (reasons & 2) != 0;
            boolean deserted = (reasons & 4) != 0;
            EchoFair fair = Check.loaded("fair 30;fog 9;echo a 9 1 5 0;valley v 1 1 5 0;");
            if (!deserted) {
                fair.fund(0, 99);
            }
            fair.passDays(1);
            CHECK.same("deserted", fair.desertions(0), deserted ? 1 : 0);
            if (!deserted) {
                fair.dismiss(0);
            }
            if (score) {
                fair.test(0, 0);
            }
            if (wage) {
                fair.setWage(0, 4);
            }
            int due = wage ? 1 : score ? 2 : deserted ? 3 : 0;
            CHECK.same("reason of " + reasons, fair.pairReason(0, 0), due);
        }
    }

    /** The echo a accepts w, y and v, in this order, and not x. */
    private static EchoFair threeWages() {
        return Check.loaded(HEAD + "echo a 1 1 5 0;echo b 1 1 99 0;valley v 1 1 5 0;"
            + "valley w 1 1 9 0;valley x 1 1 4 0;valley y 1 1 9 0;");
    }

    private static void notSoManyValleys() {
        EchoFair fair = threeWages();
        int[] order = {1, 3, 0, -1, -1};
        for (int rank = 0; rank < 5; rank++) {
            CHECK.same("rank " + rank, fair.preferredValley(0, rank), order[rank]);
            CHECK.same("b accepts none, " + rank, fair.preferredValley(1, rank), -1);
        }
        int[] outside = {-1, -2, 8, 32, Integer.MIN_VALUE, Integer.MAX_VALUE};
        for (int rank : outside) {
            CHECK.same("rank " + rank, fair.preferredValley(0, rank), -1);
        }
        EchoFair eight = Check.loaded(Numbers.crowd(12, 8));
        CHECK.same("the last of eight", eight.preferredValley(11, 7), 7);
        CHECK.same("behind the last of eight", eight.preferredValley(11, 8), -1);
    }

    private static void valleysOfNoEcho() {
        int[] ranks = {-1, 0, 7, 8, Integer.MIN_VALUE, Integer.MAX_VALUE};
        for (int rank : ranks) {
            NUMBERS.ofEchoes((fair, echo) -> fair.preferredValley(echo, rank));
        }
    }

    /** The valley v prefers b, d and a, in this order; c asks too much, and w pays too little. */
    private static EchoFair threeScores() {
        return Check.loaded(HEAD + "echo a 1 2 5 0;echo b 1 3 5 0;echo c 1 9 6 0;echo d 1 3 5 0;"
            + "valley v 1 1 5 0;valley w 1 1 4 0;tested v a;tested v c;tested v d;");
    }

    private static void notSoManyEchoes() {
        EchoFair fair = threeScores();
        int[] order = {1, 3, 0, -1, -1};
        for (int rank = 0; rank < 5; rank++) {
            CHECK.same("rank " + rank, fair.preferredEcho(0, rank), order[rank]);
            CHECK.same("nobody accepts w, " + rank, fair.preferredEcho(1, rank), -1);
        }
        int[] outside = {-1, -2, 12, 32, Integer.MIN_VALUE, Integer.MAX_VALUE};
        for (int rank : outside) {
            CHECK.same("rank " + rank, fair.preferredEcho(0, rank), -1);
        }
        EchoFair twelve = Check.loaded(Numbers.crowd(12, 8));
        CHECK.same("the last of twelve", twelve.preferredEcho(7, 11), 11);
        CHECK.same("behind the last of twelve", twelve.preferredEcho(7, 12), -1);
    }

    private static void echoesOfNoValley() {
        int[] ranks = {-1, 0, 11, 12, Integer.MIN_VALUE, Integer.MAX_VALUE};
        for (int rank : ranks) {
            NUMBERS.ofValleys((fair, valley) -> fair.preferredEcho(valley, rank));
        }
    }
}
