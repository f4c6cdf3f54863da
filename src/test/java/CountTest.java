/** Promise 8: count. */
public final class CountTest {
    public static void main(String[] args) {
        Check check = new Check();
        counts(check);
        notWithoutProducer(check);
        emptyLog(check);
        fullLog(check);
        manyProducers(check);
        whatNoneOfThese(check);
        check.end();
    }

    private static void counts(Check check) {
        check.sentence("what = 0 batches, 1 producers that the log knows, 2 END");
        ProducerBook book = new ProducerBook();
        book.offers(7, 4, 0, 0, 0);
        check.counts(book, 7, 1, 7);
        book.offers(2, 5, 0, 0, 99);
        check.counts(book, 9, 2, 207);
        book.offer(5, 0, 9, 0);
        book.offer(5, 0, 100, 99);
        check.counts(book, 9, 2, 207);
        book.offer(4, 1, 0, 0);
        check.counts(book, 10, 2, 208);
        book.thin();
        check.counts(book, 7, 2, 208);
        book.drop(6);
        check.counts(book, 1, 1, 208);
    }

    private static void notWithoutProducer(Check check) {
        check.sentence("WHAT THE LOG KNOWS of a producer (not -1)");
        ProducerBook book = new ProducerBook();
        book.offers(3, -1, -1, -1, 9);
        check.counts(book, 3, 0, 30);
        book.offer(0, 0, 0, 0);
        check.counts(book, 4, 1, 31);
    }

    private static void emptyLog(Check check) {
        check.sentence("How many there are");
        ProducerBook book = new ProducerBook();
        check.counts(book, 0, 0, 0);
        book.offers(3, 1, 0, 0, 999);
        book.drop(3);
        check.counts(book, 0, 0, 3000);
    }

    private static void fullLog(Check check) {
        check.sentence("How many there are");
        check.counts(Books.fullByBatches(), 2000, 4, 2000);
        check.counts(Books.fullByEnd(), 1000, 2, 1000000);
        check.counts(Books.withEnd(1000000), 1000, 0, 1000000);
    }

    private static void manyProducers(Check check) {
        check.sentence("1 producers that the log knows");
        ProducerBook book = new ProducerBook();
        for (int i = 0; i < 500; i++) {
            book.offer(i * (1L << 32), 0, i, 0);
        }
        check.counts(book, 500, 500, 500);
        book.drop(100);
        check.counts(book, 400, 400, 500);
        book.offers(500, 499L << 32, 0, 500, 0);
        check.counts(book, 900, 400, 1000);
    }

    private static void whatNoneOfThese(Check check) {
        check.sentence("Illegal argument: what is none of these.");
        ProducerBook[] books = {new ProducerBook(), Books.mixed(), Books.fullByEnd()};
        int[] wrong = {Integer.MIN_VALUE, -2, -1, 3, 4, Integer.MAX_VALUE};
        for (ProducerBook book : books) {
            for (int what : wrong) {
                check.refusesArgument("count(" + what + ")", () -> book.count(what));
            }
        }
    }
}
