import java.io.IOException;
import java.nio.file.Files;
import java.nio.file.Path;
import java.util.ArrayList;
import java.util.List;

/** What ../shared/DOC.md says of each promise, in its own words. */
final class Doc {
    private static final String THROWS = "Throws `";

    /** The lines of a promise are what it says behind its signature, but for what it throws. */
    record Promise(int number, String signature, List<String> lines, List<String> thrown) {
        /** The name with the names of the arguments behind it, as in put(queue, slot). */
        String call() {
            int end = signature.indexOf(')') + 1;
            String head = signature.substring(0, end).replace("int ", "").replace("long ", "");
            return head.replace("String ", "").replace("boolean ", "");
        }

        String name() {
            return call().substring(0, call().indexOf('('));
        }

        /** What it says, but for the arguments of which it only tells what they are. */
        Sentences sentences() {
            StringBuilder text = new StringBuilder();
            for (String line : lines) {
                boolean isPlain = line.startsWith("`") && !line.matches(".*\\d.*");
                text.append(isPlain ? "" : line).append(' ');
            }
            return new Sentences("promise " + number, text.toString());
        }
    }

    private Doc() {
    }

    static String text() throws IOException {
        return Files.readString(Path.of("../shared/DOC.md"));
    }

    static List<Promise> promises() throws IOException {
        List<Promise> promises = new ArrayList<>();
        for (String part : text().split("\n## Not promised")[0].split("\n## Promise ")) {
            if (Character.isDigit(part.charAt(0))) {
                promises.add(promise(part));
            }
        }
        return promises;
    }

    /** A section of the description, told by its number. */
    static Sentences section(int number) throws IOException {
        String description = text().split("\n## Promise 1:")[0];
        String part = description.substring(description.indexOf("\n== " + number + ". ") + 1);
        int end = part.indexOf("\n== ");
        return new Sentences("section " + number, part.substring(part.indexOf('\n'), end < 0 ? part.length() : end));
    }

    private static Promise promise(String part) {
        int number = Integer.parseInt(part.substring(0, part.indexOf(':')));
        String signature = "";
        List<String> lines = new ArrayList<>();
        List<String> thrown = new ArrayList<>();
        for (String line : part.substring(part.indexOf('\n')).split("\n")) {
            if (line.startsWith("`")) {
                signature = line.replace("`", "");
            } else if (line.startsWith(THROWS)) {
                thrown.addAll(thrownBy(line.substring(THROWS.length())));
            } else if (!line.isBlank() && !line.startsWith("=")) {
                lines.add(line.startsWith("- `") ? line.substring(2) : line);
            }
        }
        return new Promise(number, signature, lines, thrown);
    }

    /** Each as its exception, "if", and one thing that it is thrown for. */
    private static List<String> thrownBy(String line) {
        List<String> each = new ArrayList<>();
        String kind = line.substring(0, line.indexOf('`'));
        for (String reason : line.substring(line.indexOf(" if ") + 4).split(", or ")) {
            each.add(kind + " if " + reason);
        }
        return each;
    }
}
