import java.io.IOException;
import java.nio.file.Files;
import java.nio.file.Path;
import java.util.ArrayList;
import java.util.Arrays;
import java.util.LinkedHashMap;
import java.util.List;
import java.util.Map;
import java.util.regex.Matcher;
import java.util.regex.Pattern;

/**
 * ../shared/DOC.md by its parts: "use", sections "1" to "4", "refused" (the order of
 * refusals), promises "P1" to "P37"; and which of its words some test quotes.
 */
final class Document {
    private static final Pattern PROMISE = Pattern.compile("## Promise (\\d+): .*?\n\n`[^`]*`: (.*?)(?=\n\n## )", Pattern.DOTALL);

    private final Map<String, String> parts = new LinkedHashMap<>();
    private final Map<String, boolean[]> quoted = new LinkedHashMap<>();

    Document(Path file) throws IOException {
        String all = Files.readString(file).replaceAll("```(text)?\n", "");
        String terms = between(all, "## Terms", "Ahead of the calls");
        put("use", between(all, "An object is used", "## The public face"));
        // The document breaks off its first section to show the face, and goes on under "Terms".
        put("1", between(all, "======== 1", "An object is used") + between(terms, "## Terms", "======== 2"));
        put("2", between(terms, "======== 2", "======== 3"));
        put("3", between(terms, "======== 3", "======== 4"));
        put("4", between(terms, "======== 4", "Refused, and"));
        put("refused", terms.substring(terms.indexOf("Refused, and")));
        Matcher promise = PROMISE.matcher(all);
        while (promise.find()) {
            put("P" + promise.group(1), promise.group(2));
        }
    }

    private static String between(String all, String first, String behind) {
        int start = all.indexOf(first);
        return all.substring(start, all.indexOf(behind, start));
    }

    private void put(String part, String words) {
        String plain = words.replaceAll("^(======== \\d|## Terms)", "").replace("## Terms", " ").replaceAll("\\s+", " ").trim();
        parts.put(part, plain);
        quoted.put(part, new boolean[plain.length()]);
    }

    int size() {
        return parts.size();
    }

    /** Whether a part has these words; they are quoted from now on. */
    boolean quote(String part, String words) {
        int start = parts.getOrDefault(part, "").indexOf(words);
        if (start < 0) {
            return false;
        }
        Arrays.fill(quoted.get(part), start, start + words.length(), true);
        return true;
    }

    /** What no test quotes, but for points and blanks. */
    List<String> unquoted() {
        List<String> rest = new ArrayList<>();
        for (String part : parts.keySet()) {
            StringBuilder words = new StringBuilder();
            for (int i = 0; i < parts.get(part).length(); i++) {
                words.append(quoted.get(part)[i] ? '\n' : parts.get(part).charAt(i));
            }
            for (String run : words.toString().split("\n")) {
                if (run.matches(".*[A-Za-z0-9].*")) {
                    rest.add(part + ": " + run);
                }
            }
        }
        return rest;
    }
}
