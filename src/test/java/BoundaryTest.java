import java.io.IOException;

/** All promises: for each sentence of the document that names a boundary, a test that names it. */
public final class BoundaryTest {
    public static void main(String[] args) throws IOException {
        Sentences sentences = new Sentences();
        new ShopSentences(sentences).all();
        new SearchSentences(sentences).all();
        new OrderSentences(sentences).all();
        new ReadingSentences(sentences).all();
        new SheetSentences(sentences).all();
        new PartSentences(sentences).all();
        sentences.finish();
    }
}
