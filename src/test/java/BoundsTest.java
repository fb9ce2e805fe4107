import java.io.IOException;

/** Each sentence of the document that names a boundary case, with a test of its own; no sentence is left out. */
public final class BoundsTest {
    public static void main(String[] args) throws IOException {
        Check check = new Check("BoundsTest");
        Sentences sentences = new Sentences();
        new WholeBounds(check, sentences).run();
        new NetworkBounds(check, sentences).run();
        new KnowledgeBounds(check, sentences).run();
        new TextBounds(check, sentences).run();
        new HistoryBounds(check, sentences).run();
        new LookingBounds(check, sentences).run();
        new PathsBounds(check, sentences).run();
        sentences.checkQuotes(check);
        check.end();
    }
}
