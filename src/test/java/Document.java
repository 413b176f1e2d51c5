import java.io.IOException;
import java.nio.file.Files;
import java.nio.file.Path;
import java.util.ArrayList;
import java.util.LinkedHashMap;
import java.util.List;
import java.util.Map;
import java.util.regex.Matcher;
import java.util.regex.Pattern;

/** DOC.md by places ("Terms", "Section 1" to "Section 3", "Promise 1" to "Promise 30"), and what was quoted of each. */
final class Document {
    private static final Path FILE = Path.of("../shared/DOC.md");
    private static final Pattern SECTION = Pattern.compile("======== (\\d) (.*)");
    private static final Pattern PROMISE = Pattern.compile("## (Promise \\d+): .*");
    /** A full stop, but not the two of "0 .. 9". */
    private static final Pattern SENTENCE_END = Pattern.compile("(?<=[^.][.])\\s+");

    private final Map<String, String> texts = new LinkedHashMap<>();
    private final Map<String, List<String>> quotes = new LinkedHashMap<>();

    Document() throws IOException {
        String place = null;
        for (String line : Files.readAllLines(FILE)) {
            Matcher section = SECTION.matcher(line);
            Matcher promise = PROMISE.matcher(line);
            if (line.startsWith("## ")) {
                place = line.equals("## Terms") ? "Terms" : promise.matches() ? promise.group(1) : null;
            } else if (section.matches()) {
                place = "Section " + section.group(1);
                add(place, section.group(2));
            } else if (place != null && !line.startsWith("```") && !line.startsWith("Ahead of the calls")) {
                add(place, line.replaceFirst("^`.*`: ", ""));
            }
        }
    }

    static boolean isThere() {
        return Files.isReadable(FILE);
    }

    private void add(String place, String line) {
        texts.put(place, even(texts.getOrDefault(place, "") + " " + line));
    }

    private static String even(String text) {
        return text.trim().replaceAll("\\s+", " ");
    }

    /** Whether it stands there, and there once, so that it is plain which sentence is meant. */
    boolean quote(String place, String sentence) {
        String text = texts.getOrDefault(place, "");
        String quoted = even(sentence);
        quotes.computeIfAbsent(place, p -> new ArrayList<>()).add(quoted);
        int at = text.indexOf(quoted);
        return !quoted.isEmpty() && at >= 0 && text.indexOf(quoted, at + 1) < 0;
    }

    /** The sentences no part of which was quoted. */
    List<String> unquoted() {
        List<String> left = new ArrayList<>();
        for (Map.Entry<String, String> entry : texts.entrySet()) {
            int from = 0;
            for (String sentence : SENTENCE_END.split(entry.getValue())) {
                int start = entry.getValue().indexOf(sentence, from);
                from = start + sentence.length();
                if (!isQuoted(entry.getKey(), start, from)) {
                    left.add(entry.getKey() + ": " + sentence);
                }
            }
        }
        return left;
    }

    private boolean isQuoted(String place, int start, int end) {
        for (String quoted : quotes.getOrDefault(place, List.of())) {
            int at = texts.get(place).indexOf(quoted);
            if (at >= 0 && at < end && at + quoted.length() > start) {
                return true;
            }
        }
        return false;
    }
}
