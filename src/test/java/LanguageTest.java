import java.io.IOException;
import java.nio.file.Files;
import java.nio.file.Path;
import java.util.regex.Matcher;
import java.util.regex.Pattern;

/** The rules of LANGUAGE.md that can be seen in the text of the program. */
public final class LanguageTest {
    private static final String[] BANNED = {
        "import", "package", "finally", "synchronized", "assert", "instanceof", "lambda",
        "catch", "try", "protected", "var", "volatile", "transient", "native", "record",
        "Exact", "equals", "hashCode", "toString", "getMessage", "System.(?!arraycopy)",
        "Random", "Thread", "File", "Integer", "Object"
    };

    public static void main(String[] args) throws IOException {
        Check check = new Check("LanguageTest");
        String source = Files.readString(Path.of("src/main/java/EchoFair.java"));
        String code = source.replaceAll("(?s)/\\*.*?\\*/", " ").replaceAll("//[^\n]*", " ");
        String bare = code.replaceAll("\"[^\"]*\"", "\"\"");
        for (String word : BANNED) {
            String sign = word.endsWith(")") ? "" : "\\b";
            check.no("banned: " + word, Pattern.compile("\\b" + word + sign).matcher(bare).find());
        }
        check.no("a lambda", bare.contains("->"));
        check.no("a method reference", bare.contains("::"));
        check.no("texts joined by +", Pattern.compile("\"\"\\s*\\+|\\+\\s*\"\"").matcher(bare).find());
        for (int i = 0; i < source.length(); i++) {
            if (source.charAt(i) > 126) {
                check.report("a sign over 126 at " + i);
            }
        }
        newOnlyInConstructors(check, bare);
        check.finish();
    }

    /** No call makes anything, so no run of calls can fill the room: only exceptions are made. */
    private static void newOnlyInConstructors(Check check, String bare) {
        int made = 0;
        Matcher news = Pattern.compile("\\bnew (\\w+)").matcher(bare);
        while (news.find()) {
            String what = news.group(1);
            if (what.endsWith("Exception")) {
                continue;
            }
            made++;
            String line = bare.substring(bare.lastIndexOf('\n', news.start()) + 1, news.start());
            boolean field = Pattern.compile("final [\\w\\[\\]]+ \\w+ = $").matcher(line).find();
            boolean row = Pattern.compile("(echoes|valleys|worlds)\\[\\w+\\] = $").matcher(line).find()
                || line.trim().equals("bytes =");
            check.yes("new " + what + " stands in a constructor or a final field", field || row);
        }
        check.yes("something is made", made > 0);
    }
}
