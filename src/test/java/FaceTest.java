import java.lang.reflect.Constructor;
import java.lang.reflect.Field;
import java.lang.reflect.Method;
import java.lang.reflect.Modifier;
import java.util.Arrays;
import java.util.TreeSet;

/** The public face: all that the document names, and nothing else. */
public final class FaceTest {
    private static final String CONSTANTS = "NONE=-1 SYNTAX_ERROR=1 RANGE_ERROR=2 NAME_ERROR=3 "
        + "LIMIT_ERROR=4 ACCEPTABLE=0 WAGE_TOO_LOW=1 SCORE_TOO_LOW=2 DESERTED=3";

    private static final String METHODS = "int append(int,int,int,int,int) S;int truncate(int) A;"
        + "int load() A;int executeCommands() A;int errorCode();int errorPosition();"
        + "int echoCount();int valleyCount();int day();int seasonLength();int fogOf(int) A;"
        + "int findEcho();int findValley();int delayOf(int) I;int repeatsOf(int) I;"
        + "int reserveWage(int) I;int resistanceOf(int) I;int savingsOf(int) I;"
        + "int unpaidDays(int) I;int employerOf(int) I;int widthOf(int) I;int postsOf(int) I;"
        + "int wageOf(int) I;int purseOf(int) I;int staffCount(int) I;int staffMember(int,int) I;"
        + "boolean isTested(int,int) I;int seenScore(int,int) I;int pairReason(int,int) I;"
        + "int preferredValley(int,int) I;int preferredEcho(int,int) I;int blockingPairs();"
        + "int fairResult(int) I;int savingsAfter(int,int) IA;int purseAfter(int,int) IA;"
        + "int desertsIn(int) I;int leastWage(int,int) I;int bestTest(int) I;int richestEcho();"
        + "int daysServed(int,int) I;int contractsMade();int contractsEnded();"
        + "int desertions(int) I;int repliesHeard(int) I;int wagesPaid(int) I;"
        + "int moneyImbalance();int contractImbalance();int doubleServants();"
        + "double meanSavings();float employmentRate();int passDays(int) A;int holdFair();"
        + "int test(int,int) IS;int dismiss(int) IS;int setWage(int,int) IA;"
        + "int fund(int,int) IA;int train(int) IS;int undo() S;int save();int restore() S;"
        + "int formatContracts();int outputByte(int)";

    public static void main(String[] args) throws IllegalAccessException {
        Check check = new Check("FaceTest");
        check.yes("the class is public and final",
            Modifier.isPublic(EchoFair.class.getModifiers())
                && Modifier.isFinal(EchoFair.class.getModifiers()));
        check.same("constants", constants(), sorted(CONSTANTS, " "));
        check.same("methods", methods(check), sorted(METHODS, ";"));
        Constructor<?>[] constructors = EchoFair.class.getDeclaredConstructors();
        check.same("constructors", constructors.length, 1);
        check.yes("the constructor is public", Modifier.isPublic(constructors[0].getModifiers()));
        for (Class<?> inside : EchoFair.class.getDeclaredClasses()) {
            int modifiers = inside.getModifiers();
            check.yes(inside + " is static and not public", Modifier.isStatic(modifiers)
                && !Modifier.isPublic(modifiers) && !Modifier.isProtected(modifiers));
            privateNames(check, inside);
        }
        privateNames(check, EchoFair.class);
        check.finish();
    }

    private static String sorted(String list, String separator) {
        return new TreeSet<>(Arrays.asList(list.split(separator))).toString();
    }

    private static String constants() throws IllegalAccessException {
        TreeSet<String> found = new TreeSet<>();
        for (Field field : EchoFair.class.getDeclaredFields()) {
            if (!Modifier.isPrivate(field.getModifiers())) {
                boolean constant = field.getModifiers()
                    == (Modifier.PUBLIC | Modifier.STATIC | Modifier.FINAL);
                found.add(field.getName() + "=" + (constant ? field.get(null) : "no constant"));
            }
        }
        return found.toString();
    }

    private static String methods(Check check) {
        TreeSet<String> found = new TreeSet<>();
        for (Method method : EchoFair.class.getDeclaredMethods()) {
            if (Modifier.isPrivate(method.getModifiers()) || method.isSynthetic()) {
                continue;
            }
            check.yes(method + " is public", method.getModifiers() == Modifier.PUBLIC);
            StringBuilder text = new StringBuilder();
            text.append(method.getReturnType()).append(' ').append(method.getName()).append('(');
            for (int i = 0; i < method.getParameterCount(); i++) {
                text.append(i > 0 ? "," : "").append(method.getParameterTypes()[i]);
            }
            text.append(')');
            for (int i = 0; i < method.getExceptionTypes().length; i++) {
                text.append(i > 0 ? "" : " ").append(letter(method.getExceptionTypes()[i]));
            }
            found.add(text.toString());
        }
        return found.toString();
    }

    private static String letter(Class<?> exception) {
        if (exception == IllegalStateException.class) {
            return "S";
        }
        if (exception == IllegalArgumentException.class) {
            return "A";
        }
        return exception == IndexOutOfBoundsException.class ? "I" : exception.getName();
    }

    /** LANGUAGE.md, rule 1: no private method bears the name of a public one. */
    private static void privateNames(Check check, Class<?> owner) {
        for (Method method : owner.getDeclaredMethods()) {
            if (Modifier.isPublic(method.getModifiers())) {
                continue;
            }
            check.no(owner.getName() + "." + method.getName() + " bears a public name",
                METHODS.contains(" " + method.getName() + "("));
        }
    }
}
