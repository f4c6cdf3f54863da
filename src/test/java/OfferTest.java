/** Promise 2: offer. */
public final class OfferTest {
    private static final int FENCED = ProducerBook.FENCED;
    private static final int GAP = ProducerBook.GAP;
    private static final int TOP = Integer.MAX_VALUE;

    public static void main(String[] args) {
        Check check = new Check();
        comesIn(check);
        sentAgain(check);
        fenced(check);
        gap(check);
        sequencesWrap(check);
        withoutProducer(check);
        bounds(check);
        fullByBatches(check);
        fullByEnd(check);
        argumentBeforeState(check);
        check.end();
    }

    private static void comesIn(Check check) {
        ProducerBook book = new ProducerBook();
        check.is("an unknown producer starts anywhere", book.offer(4, 3, 77, 2), 0);
        check.is("the next one", book.offer(4, 3, 80, 0), 3);
        check.is("another producer", book.offer(Long.MAX_VALUE, 0, 0, 999), 4);
        check.is("END", book.count(2), 1004);
        check.batch(book, 0, 4, 3, 77, 2, 1);
        check.batch(book, 1, 4, 3, 80, 0, 1);
        check.batch(book, 2, Long.MAX_VALUE, 0, 0, 999, 1);
        check.is("producers differ above 32 bits", book.offer((1L << 32) + 4, 0, 9, 0), 1004);
    }

    private static void sentAgain(Check check) {
        ProducerBook book = new ProducerBook();
        for (int i = 0; i < 6; i++) {
            check.is("offer " + i, book.offer(1, 2, i, 0), i);
        }
        for (int i = 1; i < 6; i++) {
            check.is("again " + i, book.offer(1, 2, i, 0), i);
        }
        check.is("the sixth is not known", book.offer(1, 2, 0, 0), GAP);
        check.is("another last", book.offer(1, 2, 5, 1), GAP);
        check.is("another producer's batch", book.offer(2, 2, 5, 0), 6);
        check.is("an epoch above with a known sequence", book.offer(1, 3, 5, 0), GAP);
        check.bases(book, 0, 1, 2, 3, 4, 5, 6);
        check.is("END", book.count(2), 7);
        check.is("after all that the next one", book.offer(1, 2, 6, 0), 7);
        check.is("now 1 is not known", book.offer(1, 2, 1, 0), GAP);
        check.is("but 2 is", book.offer(1, 2, 2, 0), 2);
    }

    private static void fenced(Check check) {
        ProducerBook book = new ProducerBook();
        book.offer(1, 4, 0, 0);
        check.is("an epoch below", book.offer(1, 3, 1, 0), FENCED);
        check.is("an epoch above from 0", book.offer(1, 6, 0, 1), 1);
        check.is("a known batch of the old epoch", book.offer(1, 4, 0, 0), FENCED);
        check.is("the old epoch's next one", book.offer(1, 4, 1, 0), FENCED);
        check.is("between the two", book.offer(1, 5, 0, 0), FENCED);
        check.is("another producer is not fenced", book.offer(2, 0, 0, 0), 3);
        check.is("the new epoch goes on", book.offer(1, 6, 2, 0), 4);
        check.is("count(0)", book.count(0), 4);
        book.drop(2000);
        check.is("what went fences no more", book.offer(1, 0, 9, 0), 5);
    }

    private static void gap(Check check) {
        ProducerBook book = new ProducerBook();
        book.offer(1, 0, 10, 4);
        check.is("one too far", book.offer(1, 0, 16, 0), GAP);
        check.is("one too near", book.offer(1, 0, 14, 0), GAP);
        check.is("0 of the same epoch", book.offer(1, 0, 0, 0), GAP);
        check.is("1 of a greater epoch", book.offer(1, 1, 1, 0), GAP);
        check.is("the next one of a greater epoch", book.offer(1, 1, 15, 0), GAP);
        check.is("count(0)", book.count(0), 1);
        check.is("the next one", book.offer(1, 0, 15, 0), 5);
        check.is("0 of a greater epoch", book.offer(1, 32767, 0, 0), 6);
    }

    private static void sequencesWrap(Check check) {
        ProducerBook book = new ProducerBook();
        check.is("the greatest sequence", book.offer(1, 0, TOP, 0), 0);
        check.is("1 is too far", book.offer(1, 0, 1, 0), GAP);
        check.is("0 is next", book.offer(1, 0, 0, 0), 1);
        check.is("the greatest again", book.offer(1, 0, TOP, 0), 0);
        check.is("over the edge within a batch", book.offer(2, 0, TOP - 3, 9), 2);
        check.is("5 is too near", book.offer(2, 0, 5, 0), GAP);
        check.is("6 is next", book.offer(2, 0, 6, 0), 12);
        check.is("up to the edge", book.offer(3, 0, TOP - 999, 998), 13);
        check.is("the greatest is next", book.offer(3, 0, TOP, 0), 1012);
    }

    private static void withoutProducer(Check check) {
        ProducerBook book = new ProducerBook();
        check.is("one", book.offer(-1, -1, -1, 3), 0);
        check.is("the same is another one", book.offer(-1, -1, -1, 3), 4);
        check.batch(book, 1, -1, -1, -1, 3, 0);
        check.refusesArgument("epoch 0", () -> book.offer(-1, 0, -1, 0));
        check.refusesArgument("sequence 0", () -> book.offer(-1, -1, 0, 0));
        check.refusesArgument("epoch -2", () -> book.offer(-1, -2, -1, 0));
        check.refusesArgument("sequence -2", () -> book.offer(-1, -1, -2, 0));
        check.refusesArgument("last 1000", () -> book.offer(-1, -1, -1, 1000));
        check.refusesArgument("last -1", () -> book.offer(-1, -1, -1, -1));
        check.bases(book, 0, 4);
    }

    private static void bounds(Check check) {
        ProducerBook book = new ProducerBook();
        check.refusesArgument("last -1", () -> book.offer(1, 0, 0, -1));
        check.refusesArgument("last 1000", () -> book.offer(1, 0, 0, 1000));
        check.refusesArgument("last, greatest", () -> book.offer(1, 0, 0, TOP));
        check.refusesArgument("producer -2", () -> book.offer(-2, 0, 0, 0));
        check.refusesArgument("producer -2, all -1", () -> book.offer(-2, -1, -1, 0));
        check.refusesArgument("producer, least", () -> book.offer(Long.MIN_VALUE, 0, 0, 0));
        check.refusesArgument("epoch -1", () -> book.offer(1, -1, 0, 0));
        check.refusesArgument("epoch 32768", () -> book.offer(1, 32768, 0, 0));
        check.refusesArgument("sequence -1", () -> book.offer(1, 0, -1, 0));
        check.refusesArgument("sequence, least", () -> book.offer(1, 0, Integer.MIN_VALUE, 0));
        check.is("nothing came in", book.count(0), 0);
        check.is("the least numbers", book.offer(0, 0, 0, 0), 0);
        check.is("the greatest", book.offer(Long.MAX_VALUE, 32767, TOP, 999), 1);
    }

    private static void fullByBatches(Check check) {
        ProducerBook book = new ProducerBook();
        for (int i = 0; i < 3; i++) {
            book.offers(500, 1, 1, i * 500, 0);
        }
        book.offers(499, 1, 1, 1500, 0);
        check.is("the 2000th", book.offer(1, 1, 1999, 0), 1999);
        check.refusesState("the 2001st", () -> book.offer(1, 1, 2000, 0));
        check.refusesState("of an unknown producer", () -> book.offer(2, 0, 0, 0));
        check.refusesState("of a greater epoch", () -> book.offer(1, 2, 0, 0));
        check.refusesState("without producer", () -> book.offer(-1, -1, -1, 0));
        check.is("a known one still answers", book.offer(1, 1, 1995, 0), 1995);
        check.is("a gap still answers", book.offer(1, 1, 2001, 0), GAP);
        check.is("a fenced one still answers", book.offer(1, 0, 2000, 0), FENCED);
        check.is("count(0)", book.count(0), 2000);
        check.is("count(2)", book.count(2), 2000);
        check.is("known(1, 2)", book.known(1, 2), 2000);
        check.is("known(1, 4)", book.known(1, 4), 1995);
        book.drop(1);
        check.is("room again", book.offer(1, 1, 2000, 0), 2000);
        check.batch(book, 1999, 1, 1, 2000, 0, 1);
    }

    private static void fullByEnd(Check check) {
        ProducerBook book = new ProducerBook();
        book.offers(500, 1, 1, 0, 999);
        book.offers(499, 1, 1, 500000, 999);
        check.is("END", book.count(2), 999000);
        check.is("up to 999999", book.offer(1, 1, 999000, 998), 999000);
        check.refusesState("to 1000001", () -> book.offer(1, 1, 999999, 1));
        check.is("a gap still answers", book.offer(1, 1, 0, 1), GAP);
        check.is("a fenced one still answers", book.offer(1, 0, 0, 1), FENCED);
        check.is("a known one still answers", book.offer(1, 1, 999000, 998), 999000);
        check.is("END is as it was", book.count(2), 999999);
        check.is("to 1000000", book.offer(1, 1, 999999, 0), 999999);
        check.is("END", book.count(2), 1000000);
        check.refusesState("one more", () -> book.offer(2, 0, 0, 0));
        book.drop(2000);
        check.refusesState("END does not go back", () -> book.offer(2, 0, 0, 0));
    }

    private static void argumentBeforeState(Check check) {
        ProducerBook book = new ProducerBook();
        book.offers(500, 1, 1, 0, 999);
        book.offers(500, 2, 1, 0, 999);
        check.refusesArgument("last 1000", () -> book.offer(3, 0, 0, 1000));
        check.refusesArgument("epoch -1", () -> book.offer(3, -1, 0, 0));
        check.refusesArgument("sequence 0", () -> book.offer(-1, -1, 0, 0));
    }
}
