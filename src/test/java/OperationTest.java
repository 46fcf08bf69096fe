/** Promises 52 to 61: operations, undo, and the saved state. */
public final class OperationTest {
    private static final Check CHECK = new Check("OperationTest");

    public static void main(String[] args) {
        passDays();
        seasons();
        fog();
        holdFair();
        test();
        dismiss();
        setWage();
        fund();
        train();
        undo();
        undoOfEachOperation();
        refusedOperations();
        save();
        saveAndLoad();
        CHECK.finish();
    }

    private static void passDays() {
        EchoFair fair = new EchoFair();
        CHECK.argument("52: zero", () -> fair.passDays(0));
        CHECK.argument("52: negative", () -> fair.passDays(-1));
        CHECK.argument("52: over", () -> fair.passDays(61));
        CHECK.argument("52: most", () -> fair.passDays(Integer.MAX_VALUE));
        CHECK.same("52: nothing has passed", fair.day(), 0);
        CHECK.same("52: a day", fair.passDays(1), 0);
        CHECK.same("52: two desert", fair.passDays(1), 2);
        CHECK.same("52: nobody serves", fair.passDays(3), 0);
        int before = 2;
        int deserted = fair.passDays(60);
        int after = 0;
        for (int echo = 0; echo < 4; echo++) {
            after += fair.desertions(echo);
        }
        CHECK.same("52: desertions", deserted, after - before);
        CHECK.same("52: day", fair.day(), 65);
    }

    private static void seasons() {
        EchoFair fair = Check.loaded("fair 2;fog 0;echo a 1 1 1 9;valley v 9 1 1 0;"
            + "valley w 9 1 2 0;");
        fair.setWage(1, 1);
        fair.holdFair();
        CHECK.same("52: before the season", fair.employerOf(0), 0);
        fair.setWage(1, 2);
        fair.passDays(1);
        CHECK.same("52: day 0 begins a season", fair.employerOf(0), 1);
        CHECK.same("43: the first contract has ended", fair.contractsEnded(), 1);
        fair.setWage(0, 3);
        fair.passDays(1);
        CHECK.same("52: no season on day 1", fair.employerOf(0), 1);
        fair.passDays(1);
        CHECK.same("52: a season on day 2", fair.employerOf(0), 0);
        CHECK.same("42: made", fair.contractsMade(), 3);
        EchoFair unpaid = Check.loaded("fair 1;fog 0;echo a 1 1 3 0;valley v 1 1 3 0;");
        CHECK.same("52: an end forgives the unpaid day", unpaid.passDays(2), 0);
        CHECK.same("20: unpaid on the second day", unpaid.unpaidDays(0), 1);
    }

    private static void fog() {
        EchoFair fair = Check.loaded("fair 30;fog 3 4;echo a 1 1 9 3;echo b 1 1 9 4;"
            + "valley v 1 2 9 0;");
        CHECK.same("52: fog 3 drives nobody away", fair.passDays(1), 0);
        fair.undo();
        fair.setWage(0, 1);
        fair.passDays(1);
        fair.setWage(0, 9);
        fair.holdFair();
        CHECK.same("52: fog 4 drives a away", fair.passDays(1), 1);
        CHECK.same("52: a", fair.employerOf(0), -1);
        CHECK.same("52: b", fair.employerOf(1), 0);
        CHECK.same("20: b", fair.unpaidDays(1), 1);
        CHECK.same("30: a", fair.pairReason(0, 0), 3);
        fair.fund(0, 999);
        CHECK.same("52: b is paid", fair.passDays(1), 0);
        CHECK.same("20: b is paid", fair.unpaidDays(1), 0);
    }

    private static void holdFair() {
        EchoFair fair = new EchoFair();
        CHECK.same("53: three contracts", fair.holdFair(), 3);
        CHECK.same("53: no more", fair.holdFair(), 0);
        CHECK.same("53: the day stays", fair.day(), 0);
        CHECK.same("53: is undone", fair.undo(), 1);
        CHECK.same("53: is undone", fair.undo(), 0);
        CHECK.same("53: no contracts", fair.contractsMade(), 0);
        EchoFair score = Check.loaded("fair 9;fog 0;echo a 9 1 1 0;valley v 1 1 1 0;"
            + "tested v a;");
        CHECK.same("53: no acceptable pair", score.holdFair(), 0);
    }

    private static void test() {
        EchoFair fair = new EchoFair();
        CHECK.state("54: tested", () -> fair.test(0, 0));
        CHECK.same("54: score", fair.test(2, 1), -4);
        CHECK.yes("54: tested then", fair.isTested(2, 1));
        CHECK.state("54: twice", () -> fair.test(2, 1));
        fair.holdFair();
        CHECK.state("54: a contract", () -> fair.test(0, 3));
        CHECK.same("54: bell has none", fair.test(0, 2), 86);
        fair.passDays(60);
        CHECK.yes("54: never forgotten", fair.isTested(2, 1));
    }

    private static void dismiss() {
        EchoFair fair = new EchoFair();
        CHECK.state("55: no contract", () -> fair.dismiss(0));
        CHECK.index("55: negative", () -> fair.dismiss(-1));
        CHECK.index("55: no echo", () -> fair.dismiss(4));
        fair.passDays(1);
        CHECK.same("55: valley", fair.dismiss(3), 2);
        CHECK.same("55: unpaid days", fair.unpaidDays(3), 0);
        CHECK.same("55: no desertion", fair.pairReason(2, 3), 0);
        CHECK.same("55: staff", fair.staffCount(2), 0);
        CHECK.state("55: twice", () -> fair.dismiss(3));
        CHECK.same("55: again hired", fair.fairResult(3), 2);
    }

    private static void setWage() {
        EchoFair fair = new EchoFair();
        CHECK.index("56: negative", () -> fair.setWage(-1, 5));
        CHECK.index("56: no valley first", () -> fair.setWage(3, 0));
        CHECK.argument("56: zero", () -> fair.setWage(0, 0));
        CHECK.argument("56: negative wage", () -> fair.setWage(0, -5));
        CHECK.argument("56: over", () -> fair.setWage(0, 100));
        CHECK.same("56: previous", fair.setWage(0, 99), 10);
        CHECK.same("56: previous then", fair.setWage(0, 1), 99);
        CHECK.same("56: wage", fair.wageOf(0), 1);
        CHECK.same("56: the same wage is an operation", fair.setWage(0, 1), 1);
        CHECK.same("56: three operations", fair.undo(), 2);
        CHECK.same("56: other valleys", fair.wageOf(1), 8);
    }

    private static void fund() {
        EchoFair fair = new EchoFair();
        CHECK.index("57: negative", () -> fair.fund(-1, 5));
        CHECK.index("57: no valley first", () -> fair.fund(3, 0));
        CHECK.argument("57: zero", () -> fair.fund(0, 0));
        CHECK.argument("57: over", () -> fair.fund(0, 1000));
        CHECK.argument("57: least", () -> fair.fund(0, Integer.MIN_VALUE));
        CHECK.same("57: one", fair.fund(0, 1), 61);
        CHECK.same("57: most", fair.fund(0, 999), 1060);
        CHECK.same("57: purse", fair.purseOf(0), 1060);
        EchoFair rich = Check.loaded("fair 1;fog 0;echo a 1 1 1 0;valley v 1 1 1 9999;");
        CHECK.same("57: beyond 9999", rich.fund(0, 999), 10998);
        CHECK.same("47: money", rich.moneyImbalance(), 0);
    }

    private static void train() {
        EchoFair fair = Check.loaded("fair 30;fog 0;echo a 1 1 10 0;echo b 1 9 1 0;echo c 1 8 1 0;"
            + "valley v 1 3 10 9999;");
        CHECK.index("58: negative", () -> fair.train(-1));
        CHECK.index("58: no echo", () -> fair.train(3));
        CHECK.state("58: nothing saved", () -> fair.train(0));
        fair.passDays(1);
        CHECK.same("58: just enough", fair.train(0), 2);
        CHECK.same("58: paid", fair.savingsOf(0), 0);
        fair.setWage(0, 19);
        fair.passDays(1);
        CHECK.same("58: 38 saved", fair.savingsOf(0), 38);
        CHECK.same("58: for 20", fair.train(0), 3);
        CHECK.state("58: 18 are less than 30", () -> fair.train(0));
        CHECK.same("58: 18 saved", fair.savingsOf(0), 18);
        CHECK.state("58: nine repeats", () -> fair.train(1));
        CHECK.same("58: to nine", fair.train(2), 9);
        CHECK.state("58: at nine", () -> fair.train(2));
        CHECK.same("58: repeats", fair.repeatsOf(2), 9);
        CHECK.same("47: money", fair.moneyImbalance(), 0);
        EchoFair poor = Check.loaded("fair 30;fog 0;echo a 1 1 9 0;valley v 1 3 9 99;");
        poor.passDays(1);
        CHECK.state("58: a coin is missing", () -> poor.train(0));
    }

    private static void undo() {
        EchoFair fair = new EchoFair();
        CHECK.state("59: nothing", fair::undo);
        for (int i = 1; i <= 10; i++) {
            fair.setWage(0, 20 + i);
        }
        for (int i = 7; i >= 4; i--) {
            CHECK.same("59: left", fair.undo(), i);
            CHECK.same("59: wage", fair.wageOf(0), 22 + i);
        }
        fair.setWage(0, 50);
        fair.setWage(0, 51);
        CHECK.same("59: new operations", fair.undo(), 5);
        CHECK.same("59: wage of the first", fair.wageOf(0), 50);
        CHECK.same("59: before both", fair.undo(), 4);
        CHECK.same("59: wage before both", fair.wageOf(0), 26);
        for (int i = 3; i >= 0; i--) {
            CHECK.same("59: left again", fair.undo(), i);
        }
        CHECK.same("59: eight operations back", fair.wageOf(0), 22);
        CHECK.state("59: no more", fair::undo);
        CHECK.same("59: wage stays", fair.wageOf(0), 22);
        Check.type(fair, "old");
        fair.fund(0, 1);
        fair.undo();
        CHECK.same("59: the input stays", fair.findValley(), 2);
    }

    private static void undoOfEachOperation() {
        EchoFair fair = new EchoFair();
        fair.passDays(1);
        fair.undo();
        CHECK.same("59: day", fair.day(), 0);
        CHECK.same("59: savings", fair.savingsOf(0), 0);
        CHECK.same("59: purse", fair.purseOf(0), 60);
        CHECK.same("59: replies", fair.repliesHeard(0), 0);
        CHECK.same("59: wages", fair.wagesPaid(0), 0);
        CHECK.same("59: days served", fair.daysServed(0, 0), 0);
        CHECK.same("59: unpaid", fair.unpaidDays(3), 0);
        CHECK.same("59: employer", fair.employerOf(0), -1);
        CHECK.same("59: staff", fair.staffCount(0), 0);
        fair.passDays(2);
        fair.undo();
        CHECK.same("59: desertions", fair.desertions(0), 0);
        CHECK.same("59: forgiven", fair.pairReason(0, 0), 0);
        CHECK.same("59: ended", fair.contractsEnded(), 0);
        fair.test(0, 2);
        fair.undo();
        CHECK.no("59: test", fair.isTested(0, 2));
        fair.holdFair();
        fair.dismiss(0);
        fair.undo();
        CHECK.same("59: dismissed", fair.employerOf(0), 0);
        CHECK.same("59: staff of the dismissed", fair.staffMember(0, 0), 0);
        EchoFair order = Check.loaded("fair 9;fog 0;echo a 1 1 9 9;echo b 1 1 1 9;"
            + "valley v 1 3 1 0;");
        order.holdFair();
        order.setWage(0, 9);
        order.holdFair();
        order.dismiss(1);
        CHECK.same("59: without b", Check.contracts(order), "v=a");
        order.undo();
        CHECK.same("59: b again, and first", Check.contracts(order), "v=b+a");
        fair.fund(1, 9);
        fair.undo();
        CHECK.same("59: funds", fair.purseOf(1), 5);
        fair.passDays(1);
        fair.train(0);
        fair.undo();
        CHECK.same("59: repeats", fair.repeatsOf(0), 6);
        CHECK.same("59: savings of the trained", fair.savingsOf(0), 60);
        CHECK.same("47: money", fair.moneyImbalance(), 0);
        CHECK.same("48: contracts", fair.contractImbalance(), 0);
    }

    private static void refusedOperations() {
        EchoFair fair = new EchoFair();
        Runnable[] refused = {() -> fair.passDays(0), () -> fair.test(0, 0), () -> fair.test(9, 0),
            () -> fair.dismiss(0), () -> fair.setWage(0, 0), () -> fair.fund(0, 0),
            () -> fair.train(0), () -> fair.savingsAfter(0, 999), fair::restore};
        for (Runnable call : refused) {
            try {
                call.run();
                CHECK.report("59: a call was not refused");
            } catch (IndexOutOfBoundsException | IllegalArgumentException
                    | IllegalStateException e) {
                CHECK.state("59: no operation", fair::undo);
            }
        }
        fair.save();
        fair.fairResult(0);
        fair.formatContracts();
        CHECK.state("59: save is no operation", fair::undo);
    }

    private static void save() {
        EchoFair fair = new EchoFair();
        CHECK.state("61: nothing saved", fair::restore);
        fair.passDays(2);
        fair.test(1, 2);
        CHECK.same("60: day", fair.save(), 2);
        fair.passDays(7);
        fair.setWage(0, 42);
        CHECK.same("61: day", fair.restore(), 2);
        CHECK.state("61: nothing can be undone", fair::undo);
        CHECK.same("61: wage", fair.wageOf(0), 10);
        CHECK.same("61: desertions", fair.desertions(0), 1);
        CHECK.same("61: deserted", fair.pairReason(0, 0), 3);
        CHECK.same("61: contracts", Check.contracts(fair), "green= deep=mumble old=");
        CHECK.same("61: made", fair.contractsMade(), 3);
        CHECK.same("61: ended", fair.contractsEnded(), 2);
        CHECK.yes("61: tests", fair.isTested(1, 2));
        CHECK.same("61: days served", fair.daysServed(1, 1), 2);
        fair.passDays(3);
        CHECK.same("61: the saved state is kept", fair.restore(), 2);
        CHECK.same("61: savings", fair.savingsOf(1), 32);
        fair.passDays(1);
        CHECK.same("60: replaces", fair.save(), 3);
        fair.undo();
        CHECK.same("59: the saved state stays", fair.restore(), 3);
        CHECK.same("60: at any time", new EchoFair().save(), 0);
        EchoFair first = new EchoFair();
        first.save();
        first.fund(0, 5);
        CHECK.same("61: day 0", first.restore(), 0);
        CHECK.same("61: purse", first.purseOf(0), 60);
    }

    /**
     * The list in promise 60 names neither the season length nor the fog, so restore leaves both
     * as the last configuration set them.
     */
    private static void saveAndLoad() {
        EchoFair fair = new EchoFair();
        fair.passDays(1);
        fair.save();
        Check.type(fair, "fair 9;fog 1;echo ab 1 2 3 4;valley cd 5 2 7 8;");
        fair.load();
        Check.type(fair, "bell");
        CHECK.same("61: other names", fair.findEcho(), -1);
        CHECK.same("61: day", fair.restore(), 1);
        CHECK.same("61: names", fair.findEcho(), 2);
        CHECK.same("61: echoes", fair.echoCount(), 4);
        CHECK.same("61: valleys", fair.valleyCount(), 3);
        CHECK.same("61: delay", fair.delayOf(0), 3);
        CHECK.same("61: width", fair.widthOf(0), 4);
        CHECK.same("61: posts", fair.postsOf(0), 1);
        CHECK.same("61: season", fair.seasonLength(), 9);
        CHECK.same("61: fog", fair.fogOf(0), 1);
        CHECK.same("61: money", fair.moneyImbalance(), 0);
        CHECK.same("61: contracts", fair.contractImbalance(), 0);
    }
}
