import java.lang.reflect.Method;
import java.nio.file.Files;
import java.nio.file.Path;
import java.util.ArrayList;
import java.util.Arrays;
import java.util.List;
import java.util.Map;
import java.util.Set;
import java.util.TreeMap;
import java.util.TreeSet;
import java.util.regex.Matcher;
import java.util.regex.Pattern;
import java.util.stream.Collectors;

/**
 * README.md: each call that it shows answers what it says, here and by the java.nio model; what it says of the methods,
 * the exceptions and the refusals is what the document says, and all that the document says of them.
 */
public final class ReadmeTest {
    private static final String NEW_OBJECT = "Sluiceshelf s = new Sluiceshelf();";
    private static final Pattern CALL = Pattern
            .compile("(?:System.out.println\\()?s\\.(\\w+)\\(([-\\d, ]*)\\)\\)?; *// (.+)");
    private static final Pattern ANSWER = Pattern.compile("(-?\\d+|true|false|\"[^\"]*\"|throws \\w+)(: .+)?");
    private static final Pattern LISTED = Pattern.compile("- (\\d+) `([^`]+)`: (.+)");
    private static final Pattern ROW = Pattern.compile("(?m)^\\| (.+) \\|$");
    private static final List<String> KINDS = List.of("FULL", "EMPTY", "UNMARKED", "SEALED", "BEYOND", "UNFIT");

    private static final Set<String> SHOWN_METHODS = new TreeSet<>();
    private static final Set<String> SHOWN_REASONS = new TreeSet<>();
    private static final Set<String> SHOWN_ANSWERS = new TreeSet<>();

    public static void main(String[] args) throws Exception {
        String readme = Files.readString(Path.of("README.md"));
        for (String block : blocks(readme)) {
            calls(block);
        }
        shownAll();
        methods(readme);
        exceptions(readme);
        refusals(readme);
        Probe.end();
    }

    private static List<String> blocks(String readme) {
        List<String> blocks = new ArrayList<>();
        String[] parts = readme.split("(?m)^```.*$");
        for (int i = 1; i < parts.length; i += 2) {
            blocks.add(parts[i]);
        }
        Probe.due("blocks of calls", blocks.size() > 5 && parts.length % 2 == 1, true);
        return blocks;
    }

    private static void calls(String block) {
        Probe.due("new objects in a block", block.split(Pattern.quote(NEW_OBJECT), -1).length - 1, 1);
        Pair pair = new Pair();
        for (String line : block.split("\n")) {
            if (line.contains("s.")) {
                call(pair, line.strip());
            }
        }
    }

    private static void call(Pair pair, String line) {
        Matcher shown = CALL.matcher(line);
        Matcher answer = ANSWER.matcher(shown.matches() ? shown.group(3) : "");
        if (!answer.matches()) {
            Probe.due("README.md, " + line, "not understood", "a call and its answer");
            return;
        }
        Pair.Call call = new Pair.Call(shown.group(1), arguments(shown.group(2)));
        Probe.due("README.md, " + line, written(pair.ours(call)), answer.group(1));
        Probe.due("README.md beside the model, " + line, written(pair.theirs(call)), answer.group(1));
        SHOWN_METHODS.add(call.name());
        SHOWN_ANSWERS.add(answer.group(1));
        if (answer.group(2) != null) {
            SHOWN_REASONS.add(answer.group(1).replace("throws ", "") + answer.group(2).replaceFirst(":", " if"));
        }
    }

    private static Object[] arguments(String text) {
        return Arrays.stream(text.split(", *")).filter(t -> !t.isEmpty()).map(Integer::valueOf).toArray();
    }

    private static String written(Object answer) {
        boolean isText = answer instanceof String text && !text.startsWith("throws ");
        return isText ? "\"" + answer + "\"" : answer.toString();
    }

    private static void shownAll() throws Exception {
        Set<String> face = Pair.FACE.stream().map(Method::getName).collect(Collectors.toCollection(TreeSet::new));
        Probe.due("methods shown", SHOWN_METHODS, face);
        for (int kind = 1; kind <= KINDS.size(); kind++) {
            Probe.due("refusal shown, " + kind, SHOWN_ANSWERS.contains(Integer.toString(-70000 - kind)), true);
        }
        for (Doc.Promise promise : Doc.promises()) {
            for (String reason : promise.thrown()) {
                Probe.due("exception shown, " + reason, SHOWN_REASONS.contains(reason), true);
            }
        }
    }

    /** Each method's line holds what its promise says, in that order, and nothing else. */
    private static void methods(String readme) throws Exception {
        Map<Integer, Matcher> listed = new TreeMap<>();
        for (String paragraph : readme.replaceAll("\n  ", " ").split("\n")) {
            Matcher line = LISTED.matcher(paragraph);
            if (line.matches()) {
                listed.put(Integer.valueOf(line.group(1)), line);
            }
        }
        for (Doc.Promise promise : Doc.promises()) {
            Matcher line = listed.remove(promise.number());
            if (promise.number() > 1) {
                method(promise, line == null ? "" : line.group(2), line == null ? "" : line.group(3));
            }
        }
        Probe.due("methods listed that are not promised", listed.keySet(), Set.of());
    }

    private static void method(Doc.Promise promise, String call, String text) {
        Probe.due("promise " + promise.number() + ", the call", call, promise.call());
        String left = text;
        for (String said : promise.lines()) {
            if (left.startsWith(said)) {
                left = left.substring(said.length()).replaceFirst("^[;.]? *", "");
            } else if (!isPlainArgument(said)) {
                Probe.due("promise " + promise.number() + ", what is said", left, said);
            }
        }
        Probe.due("promise " + promise.number() + ", what is said beside", left, "");
    }

    /** An argument that is what its name says, such as the slot. */
    private static boolean isPlainArgument(String said) {
        return said.matches("`(\\w+)`: (the (?i)\\1|which (?i)\\1)");
    }

    private static List<String[]> rows(String readme, String heading) {
        String part = readme.substring(readme.indexOf("\n## " + heading));
        Matcher row = ROW.matcher(part.substring(0, part.indexOf("\n## ", 1)));
        List<String[]> rows = new ArrayList<>();
        while (row.find()) {
            rows.add(row.group(1).replace("`", "").split(" \\| "));
        }
        return rows.subList(1, rows.size());
    }

    private static void exceptions(String readme) throws Exception {
        Map<String, String> want = new TreeMap<>();
        for (Doc.Promise promise : Doc.promises()) {
            for (String reason : promise.thrown()) {
                want.merge(reason, promise.name(), (before, name) -> before + ", " + name);
            }
        }
        Map<String, String> got = new TreeMap<>();
        for (String[] row : rows(readme, "Exceptions")) {
            got.put(row[0] + " if " + row[1], row[2]);
        }
        Probe.due("exceptions listed", got, want);
    }

    private static void refusals(String readme) throws Exception {
        List<String[]> rows = rows(readme, "Refusals");
        Probe.due("kinds of refusals listed", rows.size(), KINDS.size());
        for (int i = 0; i < rows.size(); i++) {
            String kind = KINDS.get(i);
            Probe.due("the document on " + kind, Doc.text().contains(kind + " " + (-70001 - i)), true);
            String want = kind + " " + (-70001 - i) + " house(" + (i + 1) + ") " + tellers(kind);
            Probe.due("refusals listed", String.join(" ", rows.get(i)), want);
        }
    }

    /** The methods whose promise names the kind as what is returned. */
    private static String tellers(String kind) throws Exception {
        List<String> names = new ArrayList<>();
        for (Doc.Promise promise : Doc.promises()) {
            for (String said : promise.lines()) {
                if (said.matches("Returns (.*; (otherwise )?)?" + kind + "(,| if) .*")) {
                    names.add(promise.name());
                }
            }
        }
        return String.join(", ", names);
    }
}
