import java.io.IOException;
import java.lang.reflect.Field;
import java.lang.reflect.Method;
import java.lang.reflect.Modifier;
import java.nio.file.Files;
import java.nio.file.Path;
import java.util.Arrays;
import java.util.regex.Matcher;
import java.util.regex.Pattern;

/** The rules of LANGUAGE.md that the text of the program and its compiled classes show. */
public final class LanguageTest {
    private static final String[] BANNED = {
        "import", "package", "finally", "synchronized", "assert", "instanceof", "lambda",
        "catch", "try", "protected", "var", "volatile", "transient", "native", "record",
        "Exact", "equals", "hashCode", "toString", "getMessage", "System.(?!arraycopy)",
        "Random", "Thread", "File", "Integer", "Object"
    };

    public static void main(String[] args) throws IOException {
        Check check = new Check("LanguageTest");
        String source = Files.readString(Path.of("src/main/java/EchoFair.java"));
        String code = source.replaceAll("(?s)/\\*.*?\\*/", " ").replaceAll("//[^\n]*", " ");
        String bare = code.replaceAll("\"[^\"]*\"", "\"\"");
        for (String word : BANNED) {
            String sign = word.endsWith(")") ? "" : "\\b";
            check.no("banned: " + word, Pattern.compile("\\b" + word + sign).matcher(bare).find());
        }
        check.no("a lambda", bare.contains("->"));
        check.no("a method reference", bare.contains("::"));
        check.no("texts joined by +", Pattern.compile("\"\"\\s*\\+|\\+\\s*\"\"").matcher(bare).find());
        for (int i = 0; i < source.length(); i++) {
            if (source.charAt(i) > 126) {
                check.report("a sign over 126 at " + i);
            }
        }
        newOnlyInConstructors(check, bare);
        sizes(check, source);
        staticFields(check, EchoFair.class);
        for (Class<?> inside : EchoFair.class.getDeclaredClasses()) {
            staticFields(check, inside);
        }
        check.finish();
    }

    /** Rule 11: classes, fields, parameters and the lines of a method. */
    private static void sizes(Check check, String source) {
        Class<?>[] insides = EchoFair.class.getDeclaredClasses();
        check.yes("12 classes at most", insides.length + 1 <= 12);
        fieldsAndParameters(check, EchoFair.class);
        for (Class<?> inside : insides) {
            fieldsAndParameters(check, inside);
        }
        Matcher methods = Pattern.compile("(?ms)^( {4}| {8})\\S[^;=]*?\\{$.*?^\\1\\}$").matcher(
            source.replaceAll("(?m)^ {4}private static final class .*$", ""));
        int found = 0;
        while (methods.find()) {
            found++;
            String text = methods.group();
            check.yes("60 lines at most: " + text.lines().findFirst().orElse("").trim(),
                text.lines().count() <= 60);
        }
        check.yes("methods are found", found > 100);
    }

    private static void fieldsAndParameters(Check check, Class<?> owner) {
        long fields = Arrays.stream(owner.getDeclaredFields())
            .filter(field -> !Modifier.isStatic(field.getModifiers())).count();
        check.yes(owner.getName() + " has 20 fields at most", fields <= 20);
        for (Method method : owner.getDeclaredMethods()) {
            check.yes(owner.getName() + "." + method.getName() + " takes seven parameters at most",
                method.getParameterCount() <= 7);
        }
    }

    /** Rule 5: static fields are final, and no array among them that a call could change. */
    private static void staticFields(Check check, Class<?> owner) {
        for (Field field : owner.getDeclaredFields()) {
            if (Modifier.isStatic(field.getModifiers())) {
                check.yes(owner.getName() + "." + field.getName() + " is a constant",
                    Modifier.isFinal(field.getModifiers())
                        && (field.getType().isPrimitive() || field.getType() == String.class));
            }
        }
    }

    /** No call makes anything, so no run of calls can fill the room: only exceptions are made. */
    private static void newOnlyInConstructors(Check check, String bare) {
        int made = 0;
        Matcher news = Pattern.compile("\\bnew (\\w+)").matcher(bare);
        while (news.find()) {
            String what = news.group(1);
            if (what.endsWith("Exception")) {
                continue;
            }
            made++;
            String line = bare.substring(bare.lastIndexOf('\n', news.start()) + 1, news.start());
            boolean field = Pattern.compile("final [\\w\\[\\]]+ \\w+ = $").matcher(line).find();
            boolean row = Pattern.compile("(echoes|valleys|worlds)\\[\\w+\\] = $").matcher(line).find()
                || line.trim().equals("bytes =");
            check.yes("new " + what + " stands in a constructor or a final field", field || row);
        }
        check.yes("something is made", made > 0);
    }
}
