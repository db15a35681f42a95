import java.nio.file.Files;
import java.nio.file.Path;
import java.util.List;
import java.util.Map;
import java.util.Set;
import java.util.TreeMap;
import java.util.TreeSet;
import java.util.regex.Matcher;
import java.util.regex.Pattern;

/** The rules of ../shared/LANGUAGE.md that can be seen from the words of the source. */
public final class LanguageTest {
    /** What must not be found, by what it is told as. */
    private static final Map<String, String> NOT_LET = new TreeMap<>(Map.ofEntries(
            Map.entry("a package line", "\\bpackage\\b"),
            Map.entry("rule 2, a lambda", "(?m)^(?!.*\\b(case|default)\\b).*->"),
            Map.entry("rule 2, a method reference", "::"),
            Map.entry("rule 4, Exact", "Exact\\b"),
            Map.entry("rule 4, another import", "\\bimport (?!java\\.util\\.(ArrayList|List|Arrays|Iterator|"
                    + "NoSuchElementException);)"),
            Map.entry("rule 4, System", "\\bSystem\\.(?!arraycopy)"),
            Map.entry("rule 5, a static initialiser", "\\bstatic *\\{"),
            Map.entry("rule 6, an exception thrown on", "\\bthrow (?!new )"),
            Map.entry("rule 6, finally", "\\bfinally\\b"),
            Map.entry("rule 6, try with resources", "\\btry *\\("),
            Map.entry("rule 6, a catch of what the machine throws", "\\bcatch *\\( *(Throwable|Exception|"
                    + "RuntimeException|\\w*(ArrayIndex|NullPointer|ClassCast|NegativeArray|ArrayStore)\\w*)\\b"),
            Map.entry("rule 6, an exception of its own", "\\bextends \\w*Exception\\b"),
            Map.entry("rule 6, what an exception says", "getMessage|printStackTrace"),
            Map.entry("rule 6, synchronized", "\\bsynchronized\\b"),
            Map.entry("rule 6, assert", "\\bassert\\b"),
            Map.entry("rule 6, hashCode", "hashCode"),
            Map.entry("rule 10, texts joined by +", "\" *\\+|\\+ *\"")));
    private static final Set<String> LIBRARY = Set.of("String", "StringBuilder", "Integer", "Long", "Math", "ArrayList",
            "List", "Arrays", "System", "Iterator", "Iterable", "Comparable");
    private static final Set<String> EXCEPTIONS = Set.of("IllegalStateException", "IllegalArgumentException",
            "IndexOutOfBoundsException", "ArithmeticException", "UnsupportedOperationException",
            "NoSuchElementException", "RuntimeException");
    private static final int LONGEST_METHOD = 60;
    private static final int MOST_PARAMETERS = 7;
    private static final int MOST_CLASSES = 12;

    public static void main(String[] args) throws Exception {
        String source = Files.readString(Path.of("src/main/java/Sluiceshelf.java"));
        String code = source.replaceAll("(?s)/\\*.*?\\*/", "").replaceAll("//[^\n]*", "")
                .replaceAll("\"[^\"\n]*\"", "\"\"").replaceAll("'[^'\n]+'", "'.'");
        NOT_LET.forEach((about, pattern) -> Probe.due(about, found("(" + pattern + ")", code), Set.of()));
        types(code);
        Probe.due("rule 4, a sign above 127", source.chars().anyMatch(sign -> sign > 127), false);
        methods(code);
        Probe.end();
    }

    private static void types(String code) {
        Set<String> used = found("\\b([A-Z][a-z]\\w*)", code);
        Set<String> own = found("\\b(?:class|enum|interface|record) (\\w+)", code);
        Probe.due("rule 11, how many classes, " + own, own.size() <= MOST_CLASSES, true);
        used.removeAll(own);
        used.removeAll(LIBRARY);
        used.removeAll(EXCEPTIONS);
        Probe.due("rules 4 and 6, names of the library", used, Set.of());
    }

    private static Set<String> found(String pattern, String code) {
        Set<String> names = new TreeSet<>();
        Matcher matcher = Pattern.compile(pattern).matcher(code);
        while (matcher.find()) {
            names.add(matcher.group(1));
        }
        return names;
    }

    /** A method's last line is the first brace as far in as its first line. */
    private static void methods(String code) {
        Matcher matcher = Pattern.compile("(?sm)^( +)[a-zA-Z][^;{}=]*\\(([^;{}]*)\\)[^;{}()]*\\{\n.*?^\\1\\}")
                .matcher(code);
        int many = 0;
        while (matcher.find()) {
            many++;
            String name = matcher.group().strip().split("\n")[0];
            Probe.due("rule 11, lines of " + name, matcher.group().split("\n").length <= LONGEST_METHOD, true);
            int parameters = matcher.group(2).split(",").length;
            Probe.due("rule 11, parameters of " + name, parameters <= MOST_PARAMETERS, true);
        }
        Probe.due("methods found, " + many, many > Pair.FACE.size(), true);
    }
}
