import java.io.IOException;

/**
 * A test for each sentence of the document, above all for its boundary cases: one below and one above what is
 * allowed, empty and full markets, refused calls. What goes wrong is told with the promise and the sentence.
 */
public final class SentenceTest {
    private SentenceTest() {
    }

    public static void main(String[] args) throws IOException {
        Check check = new Check();
        Book book = new Book(check);
        Sentences[] parts = {
            new LotSentences(book), new RuleSentences(book), new BidSentences(book), new SetSentences(book),
            new WinSentences(book), new ClosingSentences(book), new OrderSentences(book),
        };
        for (Sentences part : parts) {
            part.test();
        }
        book.end();
        check.end();
    }
}
