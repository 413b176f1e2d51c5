import java.io.IOException;
import java.util.List;

/** Tests of single sentences: each names its place and quotes the sentence, which must stand there in the document. */
final class Sentences {
    /** These name no boundary case. */
    private static final List<String> NO_BOUNDARY = List.of("Terms: Words in capitals are told where they come first.");

    final Check check = new Check();
    private final Document document;
    private String latest = "";
    private int lookedThen;

    Sentences() throws IOException {
        document = Document.isThere() ? new Document() : null;
    }

    /** What is looked at from now on is about this sentence. */
    void about(String place, String sentence) {
        closeLatest();
        latest = place + ", \"" + sentence + "\"";
        check.part(latest);
        if (document != null) {
            check.holds("the document says so there, once", document.quote(place, sentence));
        }
        lookedThen = check.looked();
    }

    private void closeLatest() {
        if (!latest.isEmpty()) {
            check.holds("something was looked at", check.looked() > lookedThen);
        }
    }

    void end() {
        closeLatest();
        check.part("the document");
        if (document != null) {
            for (String sentence : document.unquoted()) {
                check.holds("it has a test: " + sentence, NO_BOUNDARY.contains(sentence));
            }
        }
        check.end();
    }
}
