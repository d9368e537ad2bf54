import java.nio.file.Files;
import java.nio.file.Path;
import java.util.List;
import java.util.regex.Matcher;
import java.util.regex.Pattern;

/** What of LANGUAGE.md can be seen in the words of the source, which stands where the tests are started. */
public final class LanguageTest {
    private static final String[][] FORBIDDEN = {
        {"1", "\\bpackage\\b"}, {"1", "\\bprotected\\b"}, {"2", "->"}, {"2", "::"},
        {"4", "\\bimport (?!java\\.util\\.(Arrays|ArrayList|List|Iterator|NoSuchElementException);)"},
        {"4", "\\bSystem\\b(?!\\.arraycopy)"}, {"4", "\\bMath\\.(?!max|min|abs|floorDiv|floorMod)"},
        {"4", "\\bArrays\\.(?!fill|copyOf|copyOfRange)"}, {"4", "\\.ordinal\\(|\\.name\\(|\\.valueOf\\("},
        {"5", "\\bstatic \\{"}, {"6", "\\b(throw|throws|try|catch|finally|synchronized|assert)\\b"},
        {"6", "\\b(equals|hashCode|toString)\\b"}, {"10", "\" \\+|\\+ \""},
        {"13", "\\b(Random|Thread|File|nanoTime|currentTimeMillis)\\b"}, {"9", "while \\(true\\)|for \\(;;\\)"},
    };

    public static void main(String[] args) throws Exception {
        String source = Files.readString(Path.of("src/main/java/TellingRows.java"));
        String code = source.replaceAll("(?s)/\\*.*?\\*/", "").replaceAll("//[^\n]*", "");
        for (String[] rule : FORBIDDEN) {
            Matcher m = Pattern.compile(rule[1]).matcher(code);
            Check.holds("rule " + rule[0] + " forbids " + rule[1], !m.find());
        }
        for (int i = 0; i < source.length(); i++) {
            Check.holds("rule 4: signs 1 to 127", source.charAt(i) < 128);
        }
        methods(code.lines().toList());
        System.out.println("the source's words are looked at");
        Check.end(1, 0);
    }

    /** Rule 11: some sixty lines a method, seven parameters. */
    private static void methods(List<String> lines) {
        int start = -1;
        int found = 0;
        for (int i = 0; i < lines.size(); i++) {
            String line = lines.get(i);
            if (line.matches("( {4}| {8})(public |private |static )*\\w+(\\[\\])? ?\\w*\\([^=]*\\) \\{")) {
                start = i;
                found++;
                Check.holds("rule 11: parameters of " + line.trim(), line.split(",").length <= 7);
            } else if (start >= 0 && line.matches(lines.get(start).replaceAll("\\S.*", "") + "\\}")) {
                Check.holds("rule 11: lines of " + lines.get(start).trim(), i - start <= 60);
                start = -1;
            }
        }
        Check.holds("the methods are found: " + found, found > 60);
    }
}
