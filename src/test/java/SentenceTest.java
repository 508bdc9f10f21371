import java.io.IOException;

/** All promises: for each sentence of the document, its terms' too, a test that names it. */
public final class SentenceTest {
    public static void main(String[] args) throws IOException {
        Sentences sentences = new Sentences();
        new PlainSentences(sentences).all();
        new ShopSentences(sentences).all();
        new SearchSentences(sentences).all();
        new OrderSentences(sentences).all();
        new ReadingSentences(sentences).all();
        new SheetSentences(sentences).all();
        new PartSentences(sentences).all();
        sentences.finish();
    }
}
