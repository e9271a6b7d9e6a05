import java.io.IOException;
import java.nio.file.Files;
import java.nio.file.Path;
import java.util.regex.Matcher;
import java.util.regex.Pattern;

/** Rules of LANGUAGE.md that the text of the class could break without failing any other test. */
public final class LanguageTest {
    private static final Check CHECK = new Check();

    public static void main(String[] args) throws IOException {
        String program = Files.readString(Path.of("src/main/java/FixedSignals.java"));
        String code = program.replaceAll("(?s)/\\*.*?\\*/", "").replaceAll("//[^\n]*", "");
        hasNone(code, "rule 1", "\\bpackage\\b", "\\bprotected\\b");
        hasNone(code, "rule 2", "->", "::");
        hasNone(code, "rule 3", "\\bdouble\\b", "\\bfloat\\b", "\\bObject\\b", "\\[\\]\\[\\]");
        hasNone(code, "rule 4", "\\bimport\\b", "\\w+Exact\\b", "\\bjava\\.", "\\bMath\\.(?!max\\b|min\\b)");
        hasNone(code, "rule 5", "\\bstatic\\s*\\{", "\\bstatic (?!final\\b)[\\w\\[\\]]+ \\w+( =|;)");
        hasNone(code, "rule 6", "\\bthrow (?!new IllegalArgumentException\\(\\);)", "\\bextends \\w*Exception\\b");
        hasNone(code, "rule 6", "\\btry\\b", "\\bfinally\\b", "\\bsynchronized\\b", "\\bassert\\b");
        hasNone(code, "rule 6", "\\b(equals|hashCode|toString)\\b");
        hasNone(code, "rule 13", "\\bSystem\\b", "\\bThread\\b", "\\b[rR]andom\\b");
        CHECK.end();
    }

    private static void hasNone(String code, String rule, String... forbidden) {
        CHECK.sentence("LANGUAGE.md, " + rule);
        for (String pattern : forbidden) {
            Matcher found = Pattern.compile(pattern).matcher(code);
            boolean isFound = found.find();
            CHECK.holds("the class has no " + pattern + (isFound ? ": " + found.group() : ""), !isFound);
        }
    }
}
