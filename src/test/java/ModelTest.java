import java.util.Random;
import java.util.function.IntSupplier;

/** Random runs of calls on EchoFair and on the model, from fixed seeds. */
public final class ModelTest {
    private static final Check CHECK = new Check("ModelTest");
    private static final int RUNS = 400;
    private static final int CALLS = 60;
    private static final String SIGNS = "azq 09;;  \u0000#A\u00ff{15";
    private static final String[] NAMES = {"a", "bb", "ccc", "dddd", "eeeee", "ffffff", "g", "h",
        "i", "j", "k", "l", "m", "echo", "tested"};

    private final Random random;
    private final String run;
    private final EchoFair fair = new EchoFair();
    private final Model model = new Model();

    private ModelTest(int seed) {
        random = new Random(seed);
        run = "run " + seed + " ";
    }

    public static void main(String[] args) {
        for (int seed = 1; seed <= RUNS; seed++) {
            new ModelTest(seed).play();
        }
        CHECK.finish();
    }

    private void play() {
        if (random.nextInt(8) > 0) {
            load();
        }
        compareAll(run + "start: ");
        for (int call = 0; call < CALLS; call++) {
            String what = run + "call " + call + ": " + callOnce(run + "call " + call);
            compareAll(what + ": ");
        }
    }

    private int below(int bound) {
        return random.nextInt(bound);
    }

    private int echo() {
        return below(model.now.echoes.size());
    }

    private int valley() {
        return below(model.now.valleys.size());
    }

    /** The same call on both; an exception is an answer of its own. */
    private void both(String what, IntSupplier ours, IntSupplier theirs) {
        CHECK.same(what, answer(ours), answer(theirs));
    }

    private static String answer(IntSupplier call) {
        try {
            return "" + call.getAsInt();
        } catch (RuntimeException e) {
            return e.getClass().getSimpleName();
        }
    }

    private String callOnce(String what) {
        int echo = echo();
        int valley = valley();
        switch (below(16)) {
            case 0:
            case 1:
            case 2:
                int days = below(4) == 0 ? 1 + below(60) : 1 + below(4);
                both(what, () -> fair.passDays(days), () -> model.passDays(days));
                return "passDays " + days;
            case 3:
            case 4:
                both(what, fair::holdFair, model::holdFair);
                return "holdFair";
            case 5:
                both(what, () -> fair.test(valley, echo), () -> model.test(valley, echo));
                return "test " + valley + " " + echo;
            case 6:
                both(what, () -> fair.dismiss(echo), () -> model.dismiss(echo));
                return "dismiss " + echo;
            case 7:
            case 8:
                int wage = below(3) == 0 ? 1 + below(99) : 1 + below(20);
                both(what, () -> fair.setWage(valley, wage), () -> model.setWage(valley, wage));
                return "setWage " + valley + " " + wage;
            case 9:
                int amount = 1 + below(999);
                both(what, () -> fair.fund(valley, amount), () -> model.fund(valley, amount));
                return "fund " + valley + " " + amount;
            case 10:
                both(what, () -> fair.train(echo), () -> model.train(echo));
                return "train " + echo;
            case 11:
                both(what, fair::undo, model::undo);
                return "undo";
            case 12:
                both(what, fair::undo, model::undo);
                both(what, fair::undo, model::undo);
                return "undo twice";
            case 13:
                return commands();
            case 14:
                return saving(what);
            default:
                return below(4) == 0 ? load() : commands();
        }
    }

    private String saving(String what) {
        switch (below(4)) {
            case 0:
                both(what, fair::restore, model::restore);
                return "restore";
            case 1:
                both(what, fair::formatContracts, model::formatContracts);
                return "formatContracts";
            default:
                both(what, fair::save, model::save);
                return "save";
        }
    }

    private void type(String text) {
        fair.truncate(0);
        Check.type(fair, text);
        model.input = text;
    }

    private String load() {
        String text = spoiled(configuration());
        type(text);
        both(run + "load of " + text, fair::load, model::load);
        return "load of " + text;
    }

    private String commands() {
        StringBuilder made = new StringBuilder();
        int count = below(12) == 0 ? 28 + below(4) : below(6);
        for (int i = 0; i < count; i++) {
            made.append(command()).append(below(5) == 0 ? " ; " : ";");
        }
        String text = spoiled(made.toString());
        type(text);
        both(run + "commands " + text, fair::executeCommands, model::executeCommands);
        return "commands " + text;
    }

    private String command() {
        String echo = " " + model.now.echoNames.get(echo());
        String valley = " " + model.now.valleyNames.get(valley());
        switch (below(7)) {
            case 0:
                return "pass " + (1 + below(5));
            case 1:
                return "fair";
            case 2:
                return "test" + valley + echo;
            case 3:
                return "dismiss" + echo;
            case 4:
                return "wage" + valley + " " + (1 + below(30));
            case 5:
                return "fund" + valley + (1 + below(99));
            default:
                return "train" + echo;
        }
    }

    private String configuration() {
        int echoes = below(6) == 0 ? 12 + below(2) : 1 + below(12);
        int valleys = below(6) == 0 ? 8 + below(2) : 1 + below(8);
        StringBuilder text = new StringBuilder("fair " + (1 + below(below(2) == 0 ? 5 : 30)));
        text.append(";fog");
        int levels = below(12) == 0 ? 13 : 1 + below(12);
        for (int i = 0; i < levels; i++) {
            text.append(' ').append(below(10));
        }
        text.append(';');
        for (int i = 0; i < echoes; i++) {
            text.append("echo ").append(NAMES[i]).append(' ').append(1 + below(9)).append(' ')
                .append(1 + below(9)).append(' ').append(1 + below(below(4) == 0 ? 40 : 12))
                .append(' ').append(below(10)).append(';');
        }
        for (int i = 0; i < valleys; i++) {
            text.append("valley ").append(NAMES[14 - i]).append(' ').append(1 + below(9))
                .append(' ').append(1 + below(3)).append(' ').append(5 + below(15)).append(' ')
                .append(below(below(2) == 0 ? 50 : 900)).append(';');
        }
        for (int i = below(12); i > 0 && text.length() < 840; i--) {
            text.append("tested ").append(NAMES[14 - below(valleys)]).append(' ')
                .append(NAMES[below(echoes)]).append(';');
        }
        return text.toString();
    }

    /** The text with a byte changed, put in or taken out, or shortened; most are left alone. */
    private String spoiled(String text) {
        if (text.isEmpty() || below(2) == 0 || text.length() > 870) {
            return text.length() > 900 ? text.substring(0, 900) : text;
        }
        int place = below(text.length());
        String sign = "" + SIGNS.charAt(below(SIGNS.length()));
        switch (below(5)) {
            case 0:
                return text.substring(0, place);
            case 1:
                return text.substring(0, place) + text.substring(place + 1);
            case 2:
                return text.substring(0, place) + sign + text.substring(place);
            case 3:
                return text.substring(0, place) + sign + text.substring(place + 1);
            default:
                return text;
        }
    }

    private void compareAll(String what) {
        Model.State now = model.now;
        CHECK.same(what + "errorCode", fair.errorCode(), model.errorCode);
        CHECK.same(what + "errorPosition", fair.errorPosition(), model.errorPosition);
        CHECK.same(what + "echoCount", fair.echoCount(), now.echoes.size());
        CHECK.same(what + "valleyCount", fair.valleyCount(), now.valleys.size());
        CHECK.same(what + "day", fair.day(), now.day);
        CHECK.same(what + "seasonLength", fair.seasonLength(), model.season);
        int day = below(10000);
        CHECK.same(what + "fogOf " + day, fair.fogOf(day), model.fogOf(day));
        CHECK.same(what + "blockingPairs", fair.blockingPairs(), now.blocking());
        CHECK.same(what + "contractsMade", fair.contractsMade(), now.made);
        CHECK.same(what + "contractsEnded", fair.contractsEnded(), now.ended);
        CHECK.same(what + "moneyImbalance", fair.moneyImbalance(), 0);
        CHECK.same(what + "contractImbalance", fair.contractImbalance(), 0);
        CHECK.same(what + "doubleServants", fair.doubleServants(), 0);
        compareEchoes(what);
        compareValleys(what);
        comparePairs(what);
        compareSimulations(what);
        StringBuilder output = new StringBuilder();
        for (int i = 0; fair.outputByte(i) != -1; i++) {
            output.append((char) fair.outputByte(i));
        }
        CHECK.same(what + "output", output.toString(), model.output);
    }

    private void compareEchoes(String what) {
        Model.State now = model.now;
        long sum = 0;
        int employed = 0;
        int richest = 0;
        for (int echo = 0; echo < now.echoes.size(); echo++) {
            int[] row = now.echoes.get(echo);
            String name = what + echo + " ";
            CHECK.same(name + "delayOf", fair.delayOf(echo), row[0]);
            CHECK.same(name + "repeatsOf", fair.repeatsOf(echo), row[1]);
            CHECK.same(name + "reserveWage", fair.reserveWage(echo), row[2]);
            CHECK.same(name + "resistanceOf", fair.resistanceOf(echo), row[3]);
            CHECK.same(name + "savingsOf", fair.savingsOf(echo), row[4]);
            CHECK.same(name + "unpaidDays", fair.unpaidDays(echo), row[5]);
            CHECK.same(name + "desertions", fair.desertions(echo), row[6]);
            CHECK.same(name + "employerOf", fair.employerOf(echo), now.employer(echo));
            for (int rank = -1; rank <= now.valleys.size(); rank++) {
                CHECK.same(name + "preferredValley " + rank, fair.preferredValley(echo, rank),
                    at(now.valleysFor(echo), rank));
            }
            sum += row[4];
            employed += now.employer(echo) == -1 ? 0 : 1;
            richest = row[4] > now.echoes.get(richest)[4] ? echo : richest;
        }
        int count = now.echoes.size();
        CHECK.same(what + "richestEcho", fair.richestEcho(), richest);
        CHECK.yes(what + "meanSavings", fair.meanSavings() == (double) sum / (double) count);
        CHECK.yes(what + "employmentRate",
            fair.employmentRate() == (float) employed / (float) count);
    }

    private static int at(java.util.List<Integer> list, int index) {
        return index < 0 || index >= list.size() ? -1 : list.get(index);
    }

    private void compareValleys(String what) {
        Model.State now = model.now;
        for (int valley = 0; valley < now.valleys.size(); valley++) {
            int[] row = now.valleys.get(valley);
            String name = what + valley + " ";
            CHECK.same(name + "widthOf", fair.widthOf(valley), row[0]);
            CHECK.same(name + "postsOf", fair.postsOf(valley), row[1]);
            CHECK.same(name + "wageOf", fair.wageOf(valley), row[2]);
            CHECK.same(name + "purseOf", fair.purseOf(valley), row[3]);
            CHECK.same(name + "repliesHeard", fair.repliesHeard(valley), row[4]);
            CHECK.same(name + "wagesPaid", fair.wagesPaid(valley), row[5]);
            CHECK.same(name + "staffCount", fair.staffCount(valley), now.staff(valley).size());
            for (int index = -1; index < 4; index++) {
                CHECK.same(name + "staffMember " + index, fair.staffMember(valley, index),
                    at(now.staff(valley), index));
            }
            for (int rank = -1; rank <= now.echoes.size(); rank++) {
                CHECK.same(name + "preferredEcho " + rank, fair.preferredEcho(valley, rank),
                    at(now.echoesFor(valley), rank));
            }
            CHECK.same(name + "bestTest", fair.bestTest(valley), model.bestTest(valley));
        }
    }

    private void comparePairs(String what) {
        Model.State now = model.now;
        for (int valley = 0; valley < now.valleys.size(); valley++) {
            for (int echo = 0; echo < now.echoes.size(); echo++) {
                String name = what + valley + " " + echo + " ";
                CHECK.same(name + "isTested", fair.isTested(valley, echo) ? 1 : 0,
                    now.tested.contains(valley * 100 + echo) ? 1 : 0);
                CHECK.same(name + "seenScore", fair.seenScore(valley, echo),
                    now.seen(valley, echo));
                CHECK.same(name + "pairReason", fair.pairReason(valley, echo),
                    now.reason(valley, echo));
                CHECK.same(name + "daysServed", fair.daysServed(valley, echo),
                    now.served[valley * 100 + echo]);
            }
        }
    }

    private void compareSimulations(String what) {
        int echo = echo();
        int valley = valley();
        CHECK.same(what + "fairResult " + echo, fair.fairResult(echo), model.fairResult(echo));
        if (below(4) > 0) {
            return;
        }
        int days = below(121);
        CHECK.same(what + "savingsAfter " + echo + " " + days, fair.savingsAfter(echo, days),
            model.after(days).echoes.get(echo)[4]);
        CHECK.same(what + "purseAfter " + valley + " " + days, fair.purseAfter(valley, days),
            model.after(days).valleys.get(valley)[3]);
        CHECK.same(what + "desertsIn " + echo, fair.desertsIn(echo), model.desertsIn(echo));
        CHECK.same(what + "leastWage " + valley + " " + echo, fair.leastWage(valley, echo),
            model.leastWage(valley, echo));
    }
}
