import java.lang.reflect.InvocationTargetException;
import java.lang.reflect.Method;
import java.lang.reflect.Modifier;
import java.util.Arrays;
import java.util.Comparator;
import java.util.Random;

/** Runs of 512 calls, all an object is made for: each answers, or throws what its face declares. */
public final class WildTest {
    private static final Check CHECK = new Check("WildTest");
    private static final int RUNS = 150;
    private static final int CALLS = 512;
    private static final int[] EDGES = {Integer.MIN_VALUE, Integer.MIN_VALUE + 1, -2, -1, 0, 1, 2,
        7, 8, 9, 11, 12, 31, 32, 60, 61, 99, 100, 119, 120, 121, 900, 901, 999, 1000, 9999, 10000,
        Integer.MAX_VALUE - 1, Integer.MAX_VALUE};
    private static final String[] TEXTS = {
        "pass 60;pass 60;pass 60;fair;fund a 999;wage a 99;",
        "test a a;dismiss a;train a;pass 1;fair;",
        "fair 1;fog 9;echo a 1 9 1 0;valley a 1 3 99 9999;tested a a;",
        "fair 2;fog 0 9;echo a 9 1 1 0;echo b 1 9 1 9;valley a 1 1 5 0;valley b 9 2 6 40;",
        "fair 30;fog 1 2 3 4 5 6 7 8 9 0 1 2;echo a 5 5 5 5;valley a 5 2 5 5", "a", ""
    };

    private final Random random;
    private final Method[] face;
    private final EchoFair fair = new EchoFair();

    private WildTest(int seed, Method[] face) {
        random = new Random(seed);
        this.face = face;
    }

    public static void main(String[] args) throws IllegalAccessException {
        Method[] face = Arrays.stream(EchoFair.class.getDeclaredMethods())
            .filter(method -> Modifier.isPublic(method.getModifiers()))
            .sorted(Comparator.comparing(Method::getName)).toArray(Method[]::new);
        for (int seed = 1; seed <= RUNS; seed++) {
            new WildTest(seed, face).play("run " + seed);
        }
        CHECK.finish();
    }

    private void play(String run) throws IllegalAccessException {
        for (int call = 0; call < CALLS; call++) {
            if (random.nextInt(12) == 0) {
                fair.truncate(0);
                Check.type(fair, TEXTS[random.nextInt(TEXTS.length)]);
            }
            callAny(run + " call " + call);
        }
        CHECK.same(run + ": 47 moneyImbalance", fair.moneyImbalance(), 0);
        CHECK.same(run + ": 48 contractImbalance", fair.contractImbalance(), 0);
        CHECK.same(run + ": 49 doubleServants", fair.doubleServants(), 0);
        for (int echo = 0; echo < fair.echoCount(); echo++) {
            CHECK.yes(run + ": 19 savings of " + echo, fair.savingsOf(echo) >= 0);
            int unpaid = fair.unpaidDays(echo);
            CHECK.yes(run + ": 20 unpaid days of " + echo, unpaid == 0 || unpaid == 1);
        }
        for (int valley = 0; valley < fair.valleyCount(); valley++) {
            CHECK.yes(run + ": 25 purse of " + valley, fair.purseOf(valley) >= 0);
            CHECK.yes(run + ": 26 staff of " + valley,
                fair.staffCount(valley) <= fair.postsOf(valley));
        }
    }

    private void callAny(String what) throws IllegalAccessException {
        Method method = face[random.nextInt(face.length)];
        Object[] values = new Object[method.getParameterCount()];
        for (int i = 0; i < values.length; i++) {
            values[i] = number();
        }
        String call = what + ": " + method.getName() + Arrays.toString(values);
        try {
            method.invoke(fair, values);
            CHECK.yes(call, true);
        } catch (InvocationTargetException e) {
            Class<?> thrown = e.getCause().getClass();
            CHECK.yes(call + " throws " + thrown.getName(),
                Arrays.asList(method.getExceptionTypes()).contains(thrown));
        }
    }

    private int number() {
        switch (random.nextInt(8)) {
            case 0:
                return EDGES[random.nextInt(EDGES.length)];
            case 1:
                return random.nextInt();
            case 2:
                return random.nextInt(130);
            default:
                return random.nextInt(4);
        }
    }
}
