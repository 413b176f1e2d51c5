import java.io.IOException;

/** A test of its own for each sentence of "Terms" and of promises 1 to 30 that names a boundary case. */
public final class BoundsTest {
    public static void main(String[] args) throws IOException {
        Sentences sentences = new Sentences();
        new BoundsOfTerms(sentences).test();
        new BoundsOfText(sentences).test();
        new BoundsOfRules(sentences).test();
        new BoundsOfTrying(sentences).test();
        new BoundsOfDraws(sentences).test();
        new BoundsOfCalls(sentences).test();
        new BoundsOfAsking(sentences).test();
        sentences.end();
    }
}
