import java.nio.file.Files;
import java.nio.file.Path;
import java.util.List;
import java.util.Set;
import java.util.TreeSet;
import java.util.regex.Matcher;
import java.util.regex.Pattern;

/** The rules of ../shared/LANGUAGE.md that can be seen from the words of the source. */
public final class LanguageTest {
    private static final List<String> NOT_LET = List.of("\\bimport\\b", "\\bpackage\\b", "->", "::", "\\btry\\b",
            "\\bcatch\\b", "\\bfinally\\b", "\\bsynchronized\\b", "\\bassert\\b", "\\bvar\\b", "\\bdouble\\b",
            "\\bfloat\\b", "Exact\\b", "\\.equals\\b", "hashCode", "\" *\\+", "\\+ *\"", "@");
    private static final Set<String> TYPES = Set.of("String", "StringBuilder", "Math", "Integer", "Long",
            "IllegalStateException", "IllegalArgumentException", "IndexOutOfBoundsException", "Sluiceshelf");
    private static final int LONGEST_METHOD = 60;

    public static void main(String[] args) throws Exception {
        String source = Files.readString(Path.of("src/main/java/Sluiceshelf.java"));
        String code = source.replaceAll("(?s)/\\*.*?\\*/", "").replaceAll("//[^\n]*", "");
        for (String word : NOT_LET) {
            Probe.due("rules 4, 6 and 10, " + word, Pattern.compile(word).matcher(code).find(), false);
        }
        types(code.replaceAll("\"[^\"]*\"", "\"\""));
        Probe.due("a sign above 127", source.chars().anyMatch(sign -> sign > 127), false);
        methods(code);
        Probe.end();
    }

    private static void types(String code) {
        Set<String> used = found("\\b([A-Z][a-z]\\w*)", code);
        used.removeAll(found("\\bclass (\\w+)", code));
        used.removeAll(TYPES);
        Probe.due("rule 4, names of the library", used, Set.of());
    }

    private static Set<String> found(String pattern, String code) {
        Set<String> names = new TreeSet<>();
        Matcher matcher = Pattern.compile(pattern).matcher(code);
        while (matcher.find()) {
            names.add(matcher.group(1));
        }
        return names;
    }

    /** A method's last line is the first brace as far in as its first line. */
    private static void methods(String code) {
        Matcher matcher = Pattern.compile("(?sm)^( +)[a-zA-Z][^;{}=]*\\([^;{}]*\\{\n.*?^\\1\\}").matcher(code);
        int many = 0;
        while (matcher.find()) {
            many++;
            int lines = matcher.group().split("\n").length;
            Probe.due("rule 11, lines of " + matcher.group().strip().split("\n")[0], lines <= LONGEST_METHOD, true);
        }
        Probe.due("methods found", many > 100, true);
    }
}
