import java.io.IOException;
import java.nio.file.Files;
import java.nio.file.Path;
import java.util.LinkedHashMap;
import java.util.Map;
import java.util.Set;
import java.util.regex.Matcher;
import java.util.regex.Pattern;

/** The document by its parts: "I" .. "V" of its Terms, "1" .. "46" of its promises, others by their headings. */
final class Doc {
    private static final Pattern TERMS = Pattern.compile("(I|II|III|IV|V)\\. .*");
    private static final Pattern PROMISE = Pattern.compile("## Promise (\\d+): .*");

    private final Map<String, String> parts = new LinkedHashMap<>();

    private Doc() {
    }

    /** Without the document's file all answers can still be asked: it says everything then. */
    static Doc read() throws IOException {
        Doc doc = new Doc();
        Path file = Path.of("../shared/DOC.md");
        if (!Files.exists(file)) {
            System.out.println("no " + file + ": sentences are not looked up");
            return doc;
        }
        String part = "";
        for (String line : Files.readAllLines(file)) {
            Matcher terms = TERMS.matcher(line);
            Matcher promise = PROMISE.matcher(line);
            if (promise.matches()) {
                part = promise.group(1);
            } else if (terms.matches()) {
                part = terms.group(1);
            } else if (line.startsWith("## ")) {
                part = line.substring(3);
            }
            doc.parts.merge(part, line, (had, more) -> had + "\n" + more);
        }
        return doc;
    }

    Set<String> parts() {
        return parts.keySet();
    }

    String of(String part) {
        return parts.getOrDefault(part, "");
    }

    boolean says(String part, String words) {
        return parts.isEmpty() || of(part).contains(words);
    }
}
