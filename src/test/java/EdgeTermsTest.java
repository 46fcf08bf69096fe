/** The edges that the section "Terms" names, up to the day: a test for each sentence. */
public final class EdgeTermsTest {
    private static final Check CHECK = new Check("EdgeTermsTest");
    private static final String HEAD = "fair 30;fog 0;";

    public static void main(String[] args) {
        all(Edges.running(CHECK));
        CHECK.finish();
    }

    static void all(Edges edges) {
        edges.section("What it is");
        edges.holds("An object is used for at most 512 calls after it has been made",
            EdgeTermsTest::fiveHundredAndTwelveCalls);
        edges.section("Terms");
        echoesAndValleys(edges);
        scores(edges);
        acceptablePairs(edges);
        fair(edges);
        day(edges);
    }

    private static void echoesAndValleys(Edges edges) {
        edges.holds("There are 1 to 12 echoes and 1 to 8 valleys, each numbered from 0.",
            EdgeTermsTest::numbersOfEchoesAndValleys);
        edges.holds("An echo has a name, a delay (1 to 9), a number of repeats (1 to 9), a reserve"
            + " wage (1 to 99), a resistance to fog (0 to 9), savings (0 at first) and a number of"
            + " unpaid days (0 at first).", EdgeTermsTest::numbersOfAnEcho);
        edges.holds("A valley has a name, a width (1 to 9), a number of posts (1 to 3), a wage"
            + " (1 to 99) and a purse (0 to 9999 in a configuration; it may grow beyond that).",
            EdgeTermsTest::numbersOfAValley);
        edges.holds("An echo has at most one contract; it serves the valley of its contract.",
            EdgeTermsTest::oneContract);
        edges.holds("A valley has at most as many contracts as posts.",
            EdgeTermsTest::asManyContractsAsPosts);
    }

    private static void scores(Edges edges) {
        edges.holds("The true score of an echo for a valley is 10 times the repeats, minus 4 times"
            + " the absolute difference of the delay of the echo and the width of the valley.",
            EdgeTermsTest::trueScores);
        edges.holds("The score that a valley sees is the true score if it has tested the echo, and"
            + " 30 otherwise.", EdgeTermsTest::seenScores);
        edges.holds("A valley never forgets a test.", EdgeTermsTest::testsAreNeverForgotten);
        edges.holds("A valley prefers the echo with the greater seen score; of equal scores the"
            + " echo with the smaller number.", EdgeTermsTest::equalScores);
    }

    private static void acceptablePairs(Edges edges) {
        edges.holds("the wage of the valley is at least the reserve wage of the echo",
            EdgeTermsTest::wageAtLeastTheReserveWage);
        edges.holds("the seen score is at least 1", EdgeTermsTest::scoreAtLeastOne);
        edges.holds("the echo has not deserted the valley in the current season.",
            EdgeTermsTest::desertedInTheSeason);
        edges.holds("An echo prefers the acceptable valley with the greater wage; of equal wages"
            + " the valley with the smaller number.", EdgeTermsTest::equalWages);
    }

    private static void fair(Edges edges) {
        edges.holds("At a fair, echoes without a contract look for free posts; existing contracts"
            + " stay.", EdgeTermsTest::existingContractsStay);
        edges.holds("All echoes without a contract are put into a queue",
            EdgeTermsTest::allEchoesAreQueued);
        edges.holds("It applies to the valley that it prefers among the acceptable valleys to"
            + " which it has not applied at this fair yet.", EdgeTermsTest::nextValley);
        edges.holds("If there is none, the echo stays without a contract.",
            EdgeTermsTest::noValleyIsLeft);
        edges.holds("The valley keeps the application if it keeps fewer applications than it has"
            + " free posts.", EdgeTermsTest::keepsUpToItsFreePosts);
        edges.holds("Otherwise, if it has free posts, it compares the new application with the"
            + " kept one that it prefers least.", EdgeTermsTest::comparesWithTheLeast);
        edges.holds("The one that it prefers less is rejected, and the other one is kept.",
            EdgeTermsTest::rejectsThePreferredLess);
        edges.holds("Without free posts the new application is rejected.",
            EdgeTermsTest::noFreePosts);
        edges.holds("A rejected echo is put at the end of the queue.",
            EdgeTermsTest::rejectedEchoesTryAgain);
        edges.holds("Steps 2 and 3 are repeated until the queue is empty.",
            EdgeTermsTest::longestQueue);
        edges.holds("Then each kept application becomes a contract, by ascending numbers of the"
            + " valleys, and for each valley by ascending numbers of the echoes.",
            EdgeTermsTest::orderOfTheContracts);
    }

    private static void day(Edges edges) {
        edges.holds("The clock counts days from 0.", EdgeTermsTest::daysFromZero);
        edges.holds("The season length is 1 to 30 days.", EdgeTermsTest::seasonLengths);
        edges.holds("Fog is described by a cyclic table of 1 to 12 levels (0 to 9); the fog of a"
            + " day is the entry whose index is the day modulo the length of the table.",
            EdgeTermsTest::fogIsCyclic);
        edges.holds("If the day is divisible by the season length, all contracts end, all"
            + " desertions are forgiven, and a fair is held.", EdgeTermsTest::daysOfASeason);
        edges.holds("the purse increases by the width times the sum of the repeats of the echoes"
            + " that serve the valley.", EdgeTermsTest::earningsOfNoneAndOfThree);
        edges.holds("Then the echoes that serve it are paid in the order of their contracts (the"
            + " oldest contract first).", EdgeTermsTest::oldestContractIsPaidFirst);
        edges.holds("If the purse is at least the pay, the pay is moved from the purse to the"
            + " savings of the echo, and its unpaid days become 0.", EdgeTermsTest::justEnough);
        edges.holds("Otherwise the echo is not paid, and its unpaid days increase by 1.",
            EdgeTermsTest::aCoinIsMissing);
        edges.holds("deserts if its unpaid days are at least 2", EdgeTermsTest::twoUnpaidDays);
        edges.holds("or if they are 1 and the fog of the day is greater than its resistance.",
            EdgeTermsTest::fogAboveTheResistance);
        edges.holds("Each echo with a contract, by ascending numbers, deserts",
            EdgeTermsTest::onlyEchoesWithAContract);
        edges.holds("An echo that deserts loses its contract, its unpaid days become 0, and it has"
            + " deserted the valley in the current season.", EdgeTermsTest::afterADesertion);
        edges.holds("The day increases by 1.", EdgeTermsTest::theDayIncreases);
        edges.holds("When a contract ends in any way, the unpaid days of the echo become 0.",
            EdgeTermsTest::unpaidDaysEndWithTheContract);
    }

    /** The calls that cost and count most, up to the last one of an object. */
    private static void fiveHundredAndTwelveCalls() {
        EchoFair fair = new EchoFair();
        Check.type(fair, "fair 1;fog 9;echo a 9 9 1 9;echo b 9 9 1 9;echo c 9 9 1 9;"
            + "valley v 9 3 1 9999;");
        int calls = 6;
        fair.load();
        for (; calls < 508; calls++) {
            fair.passDays(60);
        }
        CHECK.same("day", fair.day(), 502 * 60);
        CHECK.same("purse", fair.purseOf(0), 9999 + 502 * 60 * (9 * 27 - 27));
        CHECK.same("money", fair.moneyImbalance(), 0);
        CHECK.same("contracts", fair.contractImbalance(), 0);
        EchoFair full = new EchoFair();
        for (int i = 0; i < 502; i++) {
            full.fund(0, 999);
        }
        for (int i = 7; i >= 0; i--) {
            CHECK.same("undo", full.undo(), i);
        }
        CHECK.same("purse of the funded", full.purseOf(0), 60 + 494 * 999);
        CHECK.same("money of the funded", full.moneyImbalance(), 0);
    }

    private static void numbersOfEchoesAndValleys() {
        EchoFair least = Check.loaded(crowd(1, 1));
        CHECK.same("one echo", least.echoCount(), 1);
        CHECK.same("one valley", least.valleyCount(), 1);
        CHECK.same("number 0 is an echo", least.repeatsOf(0), 1);
        CHECK.same("number 0 is a valley", least.widthOf(0), 1);
        CHECK.index("no echo 1", () -> least.repeatsOf(1));
        CHECK.index("no valley 1", () -> least.widthOf(1));
        EchoFair most = Check.loaded(crowd(12, 8));
        CHECK.same("twelve echoes", most.echoCount(), 12);
        CHECK.same("eight valleys", most.valleyCount(), 8);
        for (int echo = 0; echo < 12; echo++) {
            CHECK.same("echo " + echo, most.repeatsOf(echo), 1 + echo % 9);
        }
        for (int valley = 0; valley < 8; valley++) {
            CHECK.same("valley " + valley, most.widthOf(valley), 1 + valley);
        }
        CHECK.index("no echo 12", () -> most.repeatsOf(12));
        CHECK.index("no valley 8", () -> most.widthOf(8));
        CHECK.badLoad(crowd(0, 1), 1, crowd(0, 1).length());
        CHECK.badLoad(crowd(1, 0), 1, crowd(1, 0).length());
        CHECK.badLoad(crowd(13, 1), 4, crowd(12, 0).length());
        CHECK.badLoad(crowd(1, 9), 4, crowd(1, 8).length());
    }

    /** So many echoes with 1 to 9 repeats, and so many valleys as wide as their place. */
    private static String crowd(int echoes, int valleys) {
        StringBuilder text = new StringBuilder(HEAD);
        for (int i = 0; i < echoes; i++) {
            text.append("echo ").append((char) ('a' + i)).append(" 1 ").append(1 + i % 9)
                .append(" 1 0;");
        }
        for (int i = 0; i < valleys; i++) {
            text.append("valley ").append((char) ('z' - i)).append(' ').append(1 + i % 9)
                .append(" 1 1 0;");
        }
        return text.toString();
    }

    private static void numbersOfAnEcho() {
        EchoFair fair = Check.loaded(HEAD + "echo a 1 1 1 0;echo b 9 9 99 9;valley v 1 1 1 0;");
        int[][] ends = {{1, 1, 1, 0}, {9, 9, 99, 9}};
        for (int echo = 0; echo < 2; echo++) {
            CHECK.same("delay", fair.delayOf(echo), ends[echo][0]);
            CHECK.same("repeats", fair.repeatsOf(echo), ends[echo][1]);
            CHECK.same("reserve wage", fair.reserveWage(echo), ends[echo][2]);
            CHECK.same("resistance", fair.resistanceOf(echo), ends[echo][3]);
            CHECK.same("savings", fair.savingsOf(echo), 0);
            CHECK.same("unpaid days", fair.unpaidDays(echo), 0);
        }
        String before = HEAD + "echo a ";
        int place = before.length();
        CHECK.badLoad(before + "0 1 1 0;", 2, place);
        CHECK.badLoad(before + "10 1 1 0;", 2, place);
        CHECK.badLoad(before + "1 0 1 0;", 2, place + 2);
        CHECK.badLoad(before + "1 10 1 0;", 2, place + 2);
        CHECK.badLoad(before + "1 1 0 0;", 2, place + 4);
        CHECK.badLoad(before + "1 1 100 0;", 2, place + 4);
        CHECK.badLoad(before + "1 1 1 10;", 2, place + 6);
        CHECK.badLoad(before + "1 1 1 -1;", 1, place + 6);
    }

    private static void numbersOfAValley() {
        EchoFair fair = Check.loaded(HEAD + "valley a 1 1 1 0;valley b 9 3 99 9999;"
            + "echo e 1 1 9 0;");
        int[][] ends = {{1, 1, 1, 0}, {9, 3, 99, 9999}};
        for (int valley = 0; valley < 2; valley++) {
            CHECK.same("width", fair.widthOf(valley), ends[valley][0]);
            CHECK.same("posts", fair.postsOf(valley), ends[valley][1]);
            CHECK.same("wage", fair.wageOf(valley), ends[valley][2]);
            CHECK.same("purse", fair.purseOf(valley), ends[valley][3]);
        }
        String before = HEAD + "valley a ";
        int place = before.length();
        CHECK.badLoad(before + "0 1 1 0;", 2, place);
        CHECK.badLoad(before + "10 1 1 0;", 2, place);
        CHECK.badLoad(before + "1 0 1 0;", 2, place + 2);
        CHECK.badLoad(before + "1 4 1 0;", 2, place + 2);
        CHECK.badLoad(before + "1 1 0 0;", 2, place + 4);
        CHECK.badLoad(before + "1 1 100 0;", 2, place + 4);
        CHECK.badLoad(before + "1 1 1 10000;", 1, place + 6);
        CHECK.badLoad(before + "1 1 1 -1;", 1, place + 6);
        CHECK.same("the purse grows by funds", fair.fund(1, 1), 10000);
        EchoFair earning = Check.loaded(HEAD + "echo e 1 9 1 0;valley a 9 1 1 9999;");
        earning.passDays(1);
        CHECK.same("the purse grows by earnings", earning.purseOf(0), 9999 + 81 - 9);
    }

    private static void oneContract() {
        EchoFair fair = Check.loaded(HEAD + "echo a 1 1 1 0;valley v 1 3 1 0;valley w 1 3 1 0;");
        CHECK.same("a contract", fair.holdFair(), 1);
        fair.setWage(1, 99);
        CHECK.same("no second contract", fair.holdFair(), 0);
        CHECK.same("serves the first", fair.employerOf(0), 0);
        CHECK.same("staff of the first", fair.staffCount(0), 1);
        CHECK.same("staff of the second", fair.staffCount(1), 0);
        CHECK.same("double servants", fair.doubleServants(), 0);
    }

    private static void asManyContractsAsPosts() {
        for (int posts = 1; posts <= 3; posts++) {
            EchoFair fair = Check.loaded(HEAD + "echo a 1 1 1 0;echo b 1 1 1 0;echo c 1 1 1 0;"
                + "echo d 1 1 1 0;valley v 1 " + posts + " 1 0;");
            CHECK.same("contracts for " + posts, fair.holdFair(), posts);
            CHECK.same("no more for " + posts, fair.holdFair(), 0);
            CHECK.same("staff of " + posts, fair.staffCount(0), posts);
            fair.dismiss(0);
            CHECK.same("one post is free again", fair.holdFair(), 1);
            CHECK.same("staff again", fair.staffCount(0), posts);
        }
    }

    private static void trueScores() {
        EchoFair fair = Check.loaded(HEAD + "echo a 9 1 1 0;echo b 9 9 1 0;echo c 5 2 1 0;"
            + "valley v 1 1 1 0;valley w 9 1 1 0;valley x 5 1 1 0;valley y 4 1 1 0;"
            + "valley z 6 1 1 0;");
        int[][] due = {{-22, 58, 4}, {10, 90, 4}, {-6, 74, 20}, {-10, 70, 16}, {-2, 78, 16}};
        for (int valley = 0; valley < 5; valley++) {
            for (int echo = 0; echo < 3; echo++) {
                CHECK.same("score " + valley + " " + echo, fair.test(valley, echo),
                    due[valley][echo]);
                CHECK.same("seen " + valley + " " + echo, fair.seenScore(valley, echo),
                    due[valley][echo]);
            }
        }
    }

    private static void seenScores() {
        EchoFair fair = Check.loaded(HEAD + "echo a 9 1 1 0;echo b 1 9 1 0;echo c 1 3 1 0;"
            + "valley v 1 1 1 0;valley w 1 1 1 0;tested w b;");
        CHECK.same("untested, though -22", fair.seenScore(0, 0), 30);
        CHECK.same("untested, though 90", fair.seenScore(0, 1), 30);
        CHECK.same("tested", fair.seenScore(1, 1), 90);
        fair.test(0, 0);
        CHECK.same("tested -22", fair.seenScore(0, 0), -22);
        CHECK.same("another valley has not", fair.seenScore(1, 0), 30);
        CHECK.same("another echo was not", fair.seenScore(0, 1), 30);
        CHECK.same("true score 30", fair.test(0, 2), 30);
    }

    private static void testsAreNeverForgotten() {
        EchoFair fair = Check.loaded("fair 1;fog 9;echo a 1 1 1 0;echo b 1 2 1 0;"
            + "valley v 1 2 2 0;valley w 9 1 99 0;tested v a;");
        fair.test(1, 0);
        fair.passDays(60);
        fair.holdFair();
        fair.setWage(0, 50);
        CHECK.yes("from the configuration", fair.isTested(0, 0));
        CHECK.yes("from a test", fair.isTested(1, 0));
        CHECK.no("not tested", fair.isTested(0, 1));
        CHECK.same("the score is seen", fair.seenScore(1, 0), -22);
        fair.passDays(60);
        CHECK.same("after 120 days", fair.seenScore(0, 0), 10);
    }

    private static void equalScores() {
        EchoFair fair = Check.loaded(HEAD + "echo a 1 3 1 0;echo b 1 3 1 0;echo c 1 4 1 0;"
            + "echo d 1 2 1 0;valley v 1 1 1 0;tested v a;tested v c;tested v d;");
        int[] order = {2, 0, 1, 3};
        for (int rank = 0; rank < 4; rank++) {
            CHECK.same("rank " + rank, fair.preferredEcho(0, rank), order[rank]);
        }
        EchoFair two = Check.loaded(HEAD + "echo a 1 1 1 0;echo b 1 9 1 0;valley v 1 1 1 0;");
        two.holdFair();
        CHECK.same("the smaller number is hired", two.staffMember(0, 0), 0);
        CHECK.same("no blocking pair", two.blockingPairs(), 0);
    }

    private static void wageAtLeastTheReserveWage() {
        EchoFair fair = Check.loaded(HEAD + "echo a 1 1 50 0;echo b 1 1 99 0;echo c 1 1 1 0;"
            + "valley v 1 3 49 0;valley w 1 3 50 0;valley x 1 3 51 0;");
        CHECK.same("one less", fair.pairReason(0, 0), EchoFair.WAGE_TOO_LOW);
        CHECK.same("equal", fair.pairReason(1, 0), EchoFair.ACCEPTABLE);
        CHECK.same("one more", fair.pairReason(2, 0), EchoFair.ACCEPTABLE);
        fair.setWage(0, 99);
        CHECK.same("99 for 99", fair.pairReason(0, 1), EchoFair.ACCEPTABLE);
        fair.setWage(0, 98);
        CHECK.same("98 for 99", fair.pairReason(0, 1), EchoFair.WAGE_TOO_LOW);
        fair.setWage(0, 1);
        CHECK.same("1 for 1", fair.pairReason(0, 2), EchoFair.ACCEPTABLE);
        CHECK.same("a stays away", fair.fairResult(0), 2);
    }

    private static void scoreAtLeastOne() {
        EchoFair fair = Check.loaded(HEAD + "echo a 3 1 1 0;echo b 6 2 1 0;echo c 4 1 1 0;"
            + "valley v 1 3 1 0;tested v a;tested v b;tested v c;");
        CHECK.same("score 2", fair.seenScore(0, 0), 2);
        CHECK.same("2 is enough", fair.pairReason(0, 0), EchoFair.ACCEPTABLE);
        CHECK.same("score 0", fair.seenScore(0, 1), 0);
        CHECK.same("0 is too low", fair.pairReason(0, 1), EchoFair.SCORE_TOO_LOW);
        CHECK.same("score -2", fair.seenScore(0, 2), -2);
        CHECK.same("-2 is too low", fair.pairReason(0, 2), EchoFair.SCORE_TOO_LOW);
        CHECK.same("only a is hired", fair.holdFair(), 1);
        CHECK.same("a", fair.staffMember(0, 0), 0);
    }

    private static void desertedInTheSeason() {
        EchoFair fair = Check.loaded("fair 3;fog 9 0;echo a 1 1 2 0;valley v 1 1 2 0;"
            + "valley w 1 1 1 0;");
        CHECK.same("before", fair.pairReason(0, 0), EchoFair.ACCEPTABLE);
        fair.passDays(1);
        CHECK.same("deserted", fair.pairReason(0, 0), EchoFair.DESERTED);
        CHECK.same("no fair brings it back", fair.holdFair(), 0);
        fair.setWage(1, 2);
        CHECK.same("another valley", fair.pairReason(1, 0), EchoFair.ACCEPTABLE);
        fair.setWage(1, 1);
        fair.passDays(2);
        CHECK.same("on day 3, before it begins", fair.pairReason(0, 0), EchoFair.DESERTED);
        fair.fund(0, 9);
        fair.passDays(1);
        CHECK.same("in the next season", fair.pairReason(0, 0), EchoFair.ACCEPTABLE);
        CHECK.same("hired in the next season", fair.employerOf(0), 0);
    }

    private static void equalWages() {
        EchoFair fair = Check.loaded(HEAD + "echo a 1 1 1 0;valley v 1 1 5 0;valley w 1 1 6 0;"
            + "valley x 1 1 5 0;valley y 1 1 6 0;");
        int[] order = {1, 3, 0, 2};
        for (int rank = 0; rank < 4; rank++) {
            CHECK.same("rank " + rank, fair.preferredValley(0, rank), order[rank]);
        }
        CHECK.same("the smaller number wins", fair.fairResult(0), 1);
    }

    private static void existingContractsStay() {
        EchoFair fair = Check.loaded(HEAD + "echo a 1 1 9 0;echo b 1 9 9 0;valley v 1 1 9 0;"
            + "valley w 1 1 1 0;tested v b;");
        fair.holdFair();
        CHECK.same("b serves v", fair.employerOf(1), 0);
        fair.setWage(0, 1);
        fair.setWage(1, 99);
        CHECK.same("a finds the free post", fair.holdFair(), 1);
        CHECK.same("a serves w", fair.employerOf(0), 1);
        CHECK.same("b stays, though v pays too little", fair.employerOf(1), 0);
        CHECK.same("nothing ended", fair.contractsEnded(), 0);
        CHECK.same("nobody looks for a post", fair.holdFair(), 0);
    }

    private static void allEchoesAreQueued() {
        EchoFair fair = Check.loaded(crowdOfTwelve());
        CHECK.same("all twelve", fair.holdFair(), 12);
        fair.dismiss(0);
        fair.dismiss(11);
        CHECK.same("the first and the last", fair.holdFair(), 2);
        CHECK.same("the first serves", fair.employerOf(0), 0);
        CHECK.same("the last serves", fair.employerOf(11), 3);
    }

    /** Twelve echoes and eight valleys of three posts, the wages falling. */
    private static String crowdOfTwelve() {
        StringBuilder text = new StringBuilder(HEAD);
        for (char name = 'a'; name <= 'l'; name++) {
            text.append("echo ").append(name).append(" 1 1 1 9;");
        }
        for (int i = 0; i < 8; i++) {
            text.append("valley ").append((char) ('a' + i)).append(" 1 3 ").append(99 - i)
                .append(" 0;");
        }
        return text.toString();
    }

    private static void nextValley() {
        EchoFair fair = Check.loaded(HEAD + "echo a 1 1 1 0;echo b 1 2 1 0;echo c 1 1 3 0;"
            + "valley v 1 1 2 0;valley w 1 1 1 0;valley x 1 1 3 0;tested x a;tested x c;"
            + "tested v a;");
        CHECK.same("b has the first wish", fair.fairResult(1), 2);
        CHECK.same("a, rejected there, has the second", fair.fairResult(0), 0);
        CHECK.same("c accepts no other", fair.fairResult(2), -1);
        fair.setWage(2, 2);
        CHECK.same("of equal wages v comes first for b", fair.fairResult(1), 0);
        CHECK.same("then a takes x", fair.fairResult(0), 2);
        EchoFair later = Check.loaded(HEAD + "echo a 1 1 5 0;valley v 1 1 5 0;valley w 1 1 6 0;");
        later.holdFair();
        later.dismiss(0);
        later.setWage(0, 4);
        CHECK.same("it applied to w at another fair", later.fairResult(0), 1);
        later.setWage(1, 4);
        CHECK.same("both were acceptable at another fair", later.fairResult(0), -1);
    }

    private static void noValleyIsLeft() {
        EchoFair fair = Check.loaded(HEAD + "echo a 1 1 9 0;echo b 1 1 1 0;echo c 1 1 1 0;"
            + "valley v 1 1 1 0;");
        CHECK.same("one contract", fair.holdFair(), 1);
        CHECK.same("a has no acceptable valley", fair.employerOf(0), -1);
        CHECK.same("c was rejected by all", fair.employerOf(2), -1);
    }

    private static void keepsUpToItsFreePosts() {
        EchoFair fair = Check.loaded(HEAD + "echo a 1 1 1 0;echo b 1 1 1 0;echo c 1 1 1 0;"
            + "echo d 1 1 9 0;valley v 1 3 1 0;");
        CHECK.same("three free posts", fair.holdFair(), 3);
        fair.dismiss(1);
        fair.dismiss(2);
        fair.setWage(0, 9);
        CHECK.same("two free posts", fair.holdFair(), 2);
        CHECK.same("staff", Check.contracts(fair), "v=a+b+c");
        fair.dismiss(1);
        CHECK.same("one free post", fair.holdFair(), 1);
        CHECK.same("no free post", fair.holdFair(), 0);
    }

    private static void comparesWithTheLeast() {
        EchoFair fair = Check.loaded(HEAD + "echo a 1 4 1 0;echo b 1 2 1 0;echo c 1 5 1 0;"
            + "echo d 1 3 1 0;valley v 1 3 1 0;tested v a;tested v b;tested v c;tested v d;");
        fair.holdFair();
        CHECK.same("b gives way to d", Check.contracts(fair), "v=a+c+d");
        EchoFair equal = Check.loaded(HEAD + "echo a 1 3 1 0;echo b 1 3 1 0;echo c 1 4 1 0;"
            + "valley v 1 2 1 0;tested v c;");
        equal.holdFair();
        CHECK.same("of equal scores the greater number", Check.contracts(equal), "v=a+c");
    }

    private static void rejectsThePreferredLess() {
        EchoFair fair = Check.loaded(HEAD + "echo a 1 4 1 0;echo b 1 5 1 0;echo c 1 4 1 0;"
            + "valley v 1 1 1 0;tested v a;tested v b;tested v c;");
        fair.holdFair();
        CHECK.same("b is preferred to a, and to c", Check.contracts(fair), "v=b");
        EchoFair equal = Check.loaded(HEAD + "echo a 1 1 1 0;echo b 1 1 1 0;valley v 1 1 1 0;");
        equal.holdFair();
        CHECK.same("the new one of equal score goes", Check.contracts(equal), "v=a");
    }

    private static void noFreePosts() {
        EchoFair fair = Check.loaded(HEAD + "echo a 1 1 1 0;echo b 1 9 2 0;valley v 1 1 1 0;"
            + "tested v a;tested v b;");
        fair.holdFair();
        fair.setWage(0, 2);
        CHECK.same("v prefers b", fair.preferredEcho(0, 0), 1);
        CHECK.same("and yet no contract", fair.holdFair(), 0);
        CHECK.same("a stays", Check.contracts(fair), "v=a");
    }

    private static void rejectedEchoesTryAgain() {
        EchoFair fair = Check.loaded(HEAD + "echo a 1 1 1 0;echo b 1 2 1 0;echo c 1 4 1 0;"
            + "valley v 1 1 3 0;valley w 1 1 2 0;valley x 1 1 1 0;tested v a;tested v b;"
            + "tested v c;tested w a;tested w b;tested w c;tested x a;tested x b;tested x c;");
        CHECK.same("all find a post", fair.holdFair(), 3);
        CHECK.same("a was rejected twice, b once", Check.contracts(fair), "v=c w=b x=a");
    }

    /** Four echoes are rejected by all eight valleys, the others by 0 to 7 of them. */
    private static void longestQueue() {
        StringBuilder text = new StringBuilder("fair 9;fog 0;");
        for (int i = 0; i < 12; i++) {
            text.append("echo ").append((char) ('a' + i)).append(" 1 ").append(i < 3 ? 2 : 3)
                .append(" 1 0;");
        }
        for (int i = 0; i < 8; i++) {
            text.append("valley ").append((char) ('a' + i)).append(" 1 1 ").append(99 - i)
                .append(" 0;");
        }
        for (int i = 0; i < 8; i++) {
            text.append("tested ").append((char) ('a' + i)).append(" a;tested ")
                .append((char) ('a' + i)).append(" b;tested ").append((char) ('a' + i))
                .append(" c;");
        }
        EchoFair fair = Check.loaded(text.toString());
        CHECK.same("eight contracts", fair.holdFair(), 8);
        CHECK.same("contracts", Check.contracts(fair), "a=d b=e c=f d=g e=h f=i g=j h=k");
    }

    private static void orderOfTheContracts() {
        EchoFair fair = Check.loaded(HEAD + "echo a 1 1 1 0;echo b 1 2 1 0;echo c 1 4 1 0;"
            + "valley v 1 3 1 0;valley w 1 1 1 0;tested v a;tested v b;tested v c;");
        fair.holdFair();
        int[] order = {0, 1, 2, -1};
        for (int index = 0; index < 4; index++) {
            CHECK.same("by the numbers, not the scores: " + index, fair.staffMember(0, index),
                order[index]);
        }
        fair.dismiss(0);
        fair.holdFair();
        CHECK.same("a later contract is younger", Check.contracts(fair), "v=b+c+a w=");
    }

    private static void daysFromZero() {
        EchoFair fair = new EchoFair();
        CHECK.same("at first", fair.day(), 0);
        fair.passDays(1);
        CHECK.same("then", fair.day(), 1);
        Check.type(fair, crowd(1, 1));
        fair.load();
        CHECK.same("after a load", fair.day(), 0);
    }

    private static void seasonLengths() {
        String rest = "fog 0;echo a 1 1 1 9;valley v 1 1 1 0;";
        EchoFair daily = Check.loaded("fair 1;" + rest);
        daily.passDays(5);
        CHECK.same("length 1", daily.seasonLength(), 1);
        CHECK.same("a contract a day", daily.contractsMade(), 5);
        EchoFair monthly = Check.loaded("fair 30;" + rest);
        CHECK.same("length 30", monthly.seasonLength(), 30);
        monthly.passDays(30);
        CHECK.same("one contract in 30 days", monthly.contractsMade(), 1);
        monthly.passDays(1);
        CHECK.same("another one on day 30", monthly.contractsMade(), 2);
        CHECK.badLoad("fair 0;" + rest, 2, 5);
        CHECK.badLoad("fair 31;" + rest, 2, 5);
    }

    private static void fogIsCyclic() {
        String rest = ";echo a 1 1 2 0;valley v 1 1 2 3;";
        EchoFair one = Check.loaded("fair 30;fog 9" + rest);
        EchoFair twelve = Check.loaded("fair 30;fog 9 8 7 6 5 4 3 2 1 0 1 2" + rest);
        int[] levels = {9, 8, 7, 6, 5, 4, 3, 2, 1, 0, 1, 2};
        for (int day = 0; day < 25; day++) {
            CHECK.same("one level, day " + day, one.fogOf(day), 9);
            CHECK.same("twelve levels, day " + day, twelve.fogOf(day), levels[day % 12]);
        }
        CHECK.same("the last day", twelve.fogOf(9999), 6);
        CHECK.badLoad("fair 30;fog" + rest, 1, 11);
        CHECK.badLoad("fair 30;fog 10" + rest, 2, 12);
        CHECK.badLoad("fair 30;fog 9 8 7 6 5 4 3 2 1 0 1 2 0" + rest, 4, 36);
        // The purse pays days 0 to 2; day 3 is unpaid, and its fog is that of day 0.
        EchoFair foggy = Check.loaded("fair 30;fog 1 0 0" + rest);
        CHECK.same("fog comes round", foggy.desertsIn(0), 4);
        EchoFair clear = Check.loaded("fair 30;fog 0 1 1" + rest);
        CHECK.same("day 4 is paid, day 5 is not", clear.desertsIn(0), 6);
    }

    private static void daysOfASeason() {
        EchoFair fair = Check.loaded("fair 2;fog 9;echo a 1 1 2 0;echo b 1 1 1 9;"
            + "valley v 1 1 2 0;valley w 1 1 1 0;");
        fair.holdFair();
        fair.passDays(1);
        CHECK.same("day 0 begins a season", fair.contractsMade(), 4);
        CHECK.same("two ended, and a deserted", fair.contractsEnded(), 3);
        CHECK.same("a deserted v", fair.pairReason(0, 0), EchoFair.DESERTED);
        fair.passDays(1);
        CHECK.same("day 1 begins none", fair.contractsMade(), 4);
        CHECK.same("a has no contract", fair.employerOf(0), -1);
        fair.fund(0, 9);
        fair.passDays(1);
        CHECK.same("day 2 begins one", fair.contractsMade(), 6);
        CHECK.same("b's contract ended", fair.contractsEnded(), 4);
        CHECK.same("a is forgiven", fair.employerOf(0), 0);
    }

    private static void earningsOfNoneAndOfThree() {
        EchoFair fair = Check.loaded(HEAD + "echo a 1 1 2 0;echo b 1 9 2 0;echo c 1 4 2 0;"
            + "valley v 9 3 2 0;valley w 9 3 1 7;");
        fair.passDays(1);
        CHECK.same("nobody serves w", fair.purseOf(1), 7);
        CHECK.same("w hears nothing", fair.repliesHeard(1), 0);
        CHECK.same("14 replies for v", fair.repliesHeard(0), 14);
        CHECK.same("9 times 14, minus 2 times 14", fair.purseOf(0), 98);
        CHECK.same("b is paid 2 times 9", fair.savingsOf(1), 18);
    }

    private static void oldestContractIsPaidFirst() {
        EchoFair fair = Check.loaded(HEAD + "echo a 1 1 9 9;echo b 1 1 1 9;valley v 1 2 1 0;");
        fair.passDays(1);
        fair.setWage(0, 9);
        fair.holdFair();
        fair.fund(0, 7);
        fair.passDays(1);
        CHECK.same("b has the oldest contract", fair.savingsOf(1), 1 + 9);
        CHECK.same("nothing is left for a", fair.savingsOf(0), 0);
        CHECK.same("a waits for its pay", fair.unpaidDays(0), 1);
        CHECK.same("the purse is empty", fair.purseOf(0), 0);
        EchoFair cheap = Check.loaded(HEAD + "echo a 1 5 5 9;echo b 1 2 5 9;echo c 1 1 5 9;"
            + "valley v 1 3 5 2;");
        cheap.passDays(1);
        CHECK.same("10 are too few for the oldest", cheap.savingsOf(0), 0);
        CHECK.same("but enough for the next", cheap.savingsOf(1), 10);
        CHECK.same("and then too few", cheap.savingsOf(2), 0);
    }

    private static void justEnough() {
        EchoFair fair = Check.loaded(HEAD + "echo a 1 3 4 9;valley v 2 1 4 6;");
        fair.passDays(1);
        CHECK.same("the purse is the pay", fair.savingsOf(0), 12);
        CHECK.same("nothing is left", fair.purseOf(0), 0);
        fair.passDays(1);
        CHECK.same("unpaid", fair.unpaidDays(0), 1);
        fair.passDays(1);
        CHECK.same("two days' earnings are the pay", fair.savingsOf(0), 24);
        CHECK.same("unpaid days are 0 again", fair.unpaidDays(0), 0);
        CHECK.same("nothing is left again", fair.purseOf(0), 0);
        CHECK.same("paid", fair.wagesPaid(0), 24);
    }

    private static void aCoinIsMissing() {
        EchoFair fair = Check.loaded(HEAD + "echo a 1 3 4 9;valley v 2 1 4 5;");
        fair.passDays(1);
        CHECK.same("no pay", fair.savingsOf(0), 0);
        CHECK.same("no part of the pay", fair.purseOf(0), 11);
        CHECK.same("an unpaid day", fair.unpaidDays(0), 1);
        CHECK.same("nothing paid", fair.wagesPaid(0), 0);
        CHECK.same("yet it serves", fair.daysServed(0, 0), 1);
    }

    private static void twoUnpaidDays() {
        EchoFair fair = Check.loaded("fair 30;fog 0;echo a 1 1 9 9;valley v 1 1 9 0;");
        CHECK.same("after one", fair.passDays(1), 0);
        CHECK.same("one", fair.unpaidDays(0), 1);
        CHECK.same("serves", fair.employerOf(0), 0);
        CHECK.same("after two", fair.passDays(1), 1);
        CHECK.same("deserted", fair.employerOf(0), -1);
        EchoFair apart = Check.loaded("fair 30;fog 0;echo a 1 1 2 9;valley v 1 1 2 0;");
        CHECK.same("every second day unpaid", apart.passDays(29), 0);
        CHECK.same("paid 14 times", apart.savingsOf(0), 28);
    }

    private static void fogAboveTheResistance() {
        for (int resistance = 0; resistance <= 9; resistance++) {
            for (int fog = 0; fog <= 9; fog++) {
                EchoFair fair = Check.loaded("fair 30;fog " + fog + ";echo a 1 1 9 " + resistance
                    + ";valley v 1 1 9 0;");
                CHECK.same("unpaid, fog " + fog + ", resistance " + resistance, fair.passDays(1),
                    fog > resistance ? 1 : 0);
            }
        }
        EchoFair paid = Check.loaded("fair 30;fog 9;echo a 1 1 1 0;valley v 1 1 1 0;");
        CHECK.same("fog alone drives nobody away", paid.passDays(30), 0);
        EchoFair ofTheDay = Check.loaded("fair 30;fog 0 9 9;echo a 1 1 9 0;valley v 1 1 9 0;");
        CHECK.same("the fog of day 0, not of day 1", ofTheDay.passDays(1), 0);
    }

    private static void onlyEchoesWithAContract() {
        EchoFair fair = Check.loaded("fair 30;fog 9;echo a 1 1 99 0;echo b 1 1 9 0;"
            + "echo c 1 1 9 0;valley v 1 2 9 0;");
        CHECK.same("b and c", fair.passDays(1), 2);
        CHECK.same("nobody is left", fair.passDays(28), 0);
        CHECK.same("a never", fair.desertions(0), 0);
        CHECK.same("b once", fair.desertions(1), 1);
        CHECK.same("c once", fair.desertions(2), 1);
    }

    private static void afterADesertion() {
        EchoFair fair = Check.loaded("fair 30;fog 9;echo a 1 1 9 0;echo b 1 1 1 9;"
            + "valley v 1 1 9 0;valley w 1 1 1 0;");
        fair.passDays(1);
        CHECK.same("no contract", fair.employerOf(0), -1);
        CHECK.same("no staff", fair.staffCount(0), 0);
        CHECK.same("no unpaid days", fair.unpaidDays(0), 0);
        CHECK.same("ended", fair.contractsEnded(), 1);
        CHECK.same("that pair", fair.pairReason(0, 0), EchoFair.DESERTED);
        CHECK.same("no other echo", fair.pairReason(0, 1), EchoFair.ACCEPTABLE);
        CHECK.same("no other valley", fair.pairReason(1, 0), EchoFair.WAGE_TOO_LOW);
        fair.setWage(1, 9);
        CHECK.same("no other valley that pays", fair.pairReason(1, 0), EchoFair.ACCEPTABLE);
    }

    private static void theDayIncreases() {
        EchoFair fair = new EchoFair();
        for (int day = 1; day <= 31; day++) {
            fair.passDays(1);
            CHECK.same("day", fair.day(), day);
        }
        fair.passDays(60);
        CHECK.same("60 more", fair.day(), 91);
    }

    private static void unpaidDaysEndWithTheContract() {
        EchoFair fair = Check.loaded("fair 2;fog 0;echo a 1 1 9 9;valley v 1 1 9 0;");
        fair.passDays(1);
        CHECK.same("unpaid", fair.unpaidDays(0), 1);
        fair.dismiss(0);
        CHECK.same("by dismissal", fair.unpaidDays(0), 0);
        fair.undo();
        CHECK.same("undone", fair.unpaidDays(0), 1);
        fair.passDays(1);
        CHECK.same("by desertion", fair.unpaidDays(0), 0);
        // Unpaid on the last day of each season: at the end of the season the days are forgiven.
        EchoFair ended = Check.loaded("fair 1;fog 0;echo a 1 1 9 9;valley v 1 1 9 0;");
        CHECK.same("by the season", ended.passDays(4), 0);
        CHECK.same("one unpaid day", ended.unpaidDays(0), 1);
    }
}
