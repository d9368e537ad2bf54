import java.nio.file.Files;
import java.nio.file.Path;
import java.util.List;
import java.util.regex.Matcher;
import java.util.regex.Pattern;

/** What of LANGUAGE.md can be seen in the words of the source, which stands where the tests are started. */
public final class LanguageTest {
    private static final String[][] FORBIDDEN = {
        {"1", "\\bpackage\\b"}, {"1", "\\bprotected\\b"}, {"2", "->"}, {"2", "::"},
        {"4", "\\bimport (?!java\\.util\\.(Arrays|ArrayList|List|Iterator|NoSuchElementException);)"},
        {"4", "\\bSystem\\b(?!\\.arraycopy)"}, {"4", "\\bMath\\.(?!max|min|abs|floorDiv|floorMod)"},
        {"4", "\\bArrays\\.(?!fill|copyOf|copyOfRange)"}, {"4", "\\.ordinal\\(|\\.name\\(|\\.valueOf\\("},
        {"5", "\\bstatic \\{"}, {"6", "\\b(throw|throws|try|catch|finally|synchronized|assert)\\b"},
        {"6", "\\b(equals|hashCode|toString)\\b"}, {"10", "\" \\+|\\+ \""},
        {"13", "\\b(Random|Thread|File|nanoTime|currentTimeMillis)\\b"}, {"9", "while \\(true\\)|for \\(;;\\)"},
    };

    private static final Pattern HEAD = Pattern.compile(
        "( {4}| {8})(?!(if|for|while|switch)\\b)((public|private|static) )*(\\w+(\\[\\])? )?\\w+\\([^=]*\\) \\{");
    private static final Pattern CONSTRUCTOR = Pattern.compile(" +(public )?[A-Z]\\w*\\(.*");

    public static void main(String[] args) throws Exception {
        String source = Files.readString(Path.of("src/main/java/TellingRows.java"));
        String code = source.replaceAll("(?s)/\\*.*?\\*/", "").replaceAll("//[^\n]*", "");
        for (String[] rule : FORBIDDEN) {
            Matcher m = Pattern.compile(rule[1]).matcher(code);
            Check.holds("rule " + rule[0] + " forbids " + rule[1], !m.find());
        }
        for (int i = 0; i < source.length(); i++) {
            Check.holds("rule 4: signs 1 to 127", source.charAt(i) < 128);
        }
        methods(code.lines().toList());
        System.out.println("the source's words are looked at");
        Check.end(1, 0);
    }

    /** Rule 11: some sixty lines a method, seven parameters; rule 12: objects are made when one is made, by no call. */
    private static void methods(List<String> lines) {
        int start = -1;
        int found = 0;
        for (int i = 0; i < lines.size(); i++) {
            String line = lines.get(i);
            if (HEAD.matcher(line).matches()) {
                Check.holds("rule 11: the method ahead has an end: " + line.trim(), start < 0);
                Check.holds("rule 11: parameters of " + line.trim(), line.split(",").length <= 7);
                start = i;
                found++;
            } else if (start >= 0 && line.equals(indent(lines.get(start)) + "}")) {
                Check.holds("rule 11: lines of " + lines.get(start).trim(), i - start < 60);
                start = -1;
            } else if (start >= 0 && line.matches(".*\\bnew\\b.*")) {
                Check.holds("rule 12: made by a constructor: " + line.trim(),
                    CONSTRUCTOR.matcher(lines.get(start)).matches());
            }
        }
        Check.holds("the methods are found: " + found, found > 60);
    }

    private static String indent(String line) {
        return line.replaceAll("\\S.*", "");
    }
}
