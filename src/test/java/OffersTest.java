/** Promise 3: offers. */
public final class OffersTest {
    private static final int TOP = Integer.MAX_VALUE;

    public static void main(String[] args) {
        Check check = new Check();
        comeIn(check);
        someComeIn(check);
        noneComeIn(check);
        sequencesWrap(check);
        withoutProducer(check);
        bounds(check);
        fullByBatches(check);
        fullByEnd(check);
        argumentBeforeState(check);
        check.end();
    }

    private static void comeIn(Check check) {
        ProducerBook book = new ProducerBook();
        check.is("offers(3, 5, 2, 10, 4)", book.offers(3, 5, 2, 10, 4), 3);
        check.bases(book, 0, 5, 10);
        for (int k = 0; k < 3; k++) {
            check.batch(book, k, 5, 2, 10 + 5 * k, 4, 1);
        }
        check.is("END", book.count(2), 15);
        check.is("known(5, 2)", book.known(5, 2), 25);
        check.is("one", book.offers(1, 5, 2, 25, 0), 1);
        check.is("500 of a greater epoch", book.offers(500, 5, 3, 0, 0), 500);
        check.is("known(5, 0)", book.known(5, 0), 5);
        check.is("known(5, 2)", book.known(5, 2), 500);
        check.is("batch(498, 5)", book.batch(498, 5), 0);
        check.is("batch(499, 5)", book.batch(499, 5), 1);
    }

    private static void someComeIn(Check check) {
        ProducerBook book = new ProducerBook();
        book.offers(8, 5, 0, 0, 0);
        check.is("gaps, then known ones, then new ones", book.offers(10, 5, 0, 0, 0), 2);
        check.is("known ones, then a new one", book.offers(6, 5, 0, 5, 0), 1);
        check.is("with another last they meet at the next", book.offers(4, 5, 0, 7, 1), 2);
        check.bases(book, 0, 1, 2, 3, 4, 5, 6, 7, 8, 9, 10, 11, 13);
        check.is("known(5, 2)", book.known(5, 2), 15);
    }

    private static void noneComeIn(Check check) {
        ProducerBook book = new ProducerBook();
        book.offers(8, 5, 1, 0, 0);
        check.is("fenced", book.offers(500, 5, 0, 8, 0), 0);
        check.is("a gap", book.offers(500, 5, 1, 9, 0), 0);
        check.is("known", book.offers(5, 5, 1, 3, 0), 0);
        check.is("a greater epoch not from 0", book.offers(500, 5, 2, 1, 0), 0);
        check.is("count(0)", book.count(0), 8);
        check.is("count(2)", book.count(2), 8);
    }

    private static void sequencesWrap(Check check) {
        ProducerBook book = new ProducerBook();
        check.is("over the edge", book.offers(3, 5, 0, TOP - 1, 2), 3);
        check.batch(book, 0, 5, 0, TOP - 1, 2, 1);
        check.batch(book, 1, 5, 0, 1, 2, 1);
        check.batch(book, 2, 5, 0, 4, 2, 1);
        check.is("a greater epoch gets to 0", book.offers(4, 5, 1, TOP - 1, 0), 2);
        check.batch(book, 3, 5, 1, 0, 0, 1);
        check.batch(book, 4, 5, 1, 1, 0, 1);
        check.is("known(5, 2)", book.known(5, 2), 2);
    }

    private static void withoutProducer(Check check) {
        ProducerBook book = new ProducerBook();
        check.is("three", book.offers(3, -1, -1, -1, 4), 3);
        check.is("the same", book.offers(3, -1, -1, -1, 4), 3);
        check.bases(book, 0, 5, 10, 15, 20, 25);
        check.batch(book, 0, -1, -1, -1, 4, 0);
        check.batch(book, 1, -1, -1, 4, 4, 0);
        check.batch(book, 2, -1, -1, 9, 4, 0);
        check.batch(book, 3, -1, -1, -1, 4, 0);
        check.is("count(1)", book.count(1), 0);
        check.refusesArgument("sequence 0", () -> book.offers(2, -1, -1, 0, 0));
        check.refusesArgument("epoch 0", () -> book.offers(2, -1, 0, -1, 0));
    }

    private static void bounds(Check check) {
        ProducerBook book = new ProducerBook();
        check.refusesArgument("n 0", () -> book.offers(0, 1, 0, 0, 0));
        check.refusesArgument("n -1", () -> book.offers(-1, 1, 0, 0, 0));
        check.refusesArgument("n 501", () -> book.offers(501, 1, 0, 0, 0));
        check.refusesArgument("n, greatest", () -> book.offers(TOP, 1, 0, 0, 0));
        check.refusesArgument("n, least", () -> book.offers(Integer.MIN_VALUE, 1, 0, 0, 0));
        check.refusesArgument("producer -2", () -> book.offers(1, -2, 0, 0, 0));
        check.refusesArgument("epoch -1", () -> book.offers(1, 1, -1, 0, 0));
        check.refusesArgument("epoch 32768", () -> book.offers(1, 1, 32768, 0, 0));
        check.refusesArgument("sequence -1", () -> book.offers(1, 1, 0, -1, 0));
        check.refusesArgument("last -1", () -> book.offers(1, 1, 0, 0, -1));
        check.refusesArgument("last 1000", () -> book.offers(1, 1, 0, 0, 1000));
        check.is("nothing came in", book.count(0), 0);
    }

    private static void fullByBatches(Check check) {
        ProducerBook book = new ProducerBook();
        for (int i = 0; i < 3; i++) {
            book.offers(500, 1, 1, i * 500, 0);
        }
        book.offers(490, 1, 1, 1500, 0);
        check.refusesState("11 where 10 fit", () -> book.offers(11, 1, 1, 1990, 0));
        check.refusesState("also if 5 are known", () -> book.offers(11, 1, 1, 1985, 0));
        check.refusesState("also if all are fenced", () -> book.offers(11, 1, 0, 0, 0));
        check.refusesState("also if all are gaps", () -> book.offers(11, 1, 1, 0, 0));
        check.is("nothing came in", book.count(0), 1990);
        check.is("10 where 10 fit", book.offers(10, 1, 1, 1990, 0), 10);
        check.refusesState("a known one in a full log", () -> book.offers(1, 1, 1, 1999, 0));
        check.is("count(0)", book.count(0), 2000);
    }

    private static void fullByEnd(Check check) {
        ProducerBook book = new ProducerBook();
        book.offers(500, 1, 1, 0, 999);
        book.offers(490, 1, 1, 500000, 999);
        check.refusesState("11 where 10 fit", () -> book.offers(11, 1, 1, 990000, 999));
        check.refusesState("10001 where 10000 fit", () -> book.offers(73, 1, 1, 990000, 136));
        check.refusesState("also if all are gaps", () -> book.offers(11, 1, 1, 0, 999));
        check.is("nothing came in", book.count(2), 990000);
        check.is("10 where 10 fit", book.offers(10, 1, 1, 990000, 999), 10);
        check.is("END", book.count(2), 1000000);
        book.drop(2000);
        check.refusesState("END does not go back", () -> book.offers(1, 1, 1, 0, 0));
    }

    private static void argumentBeforeState(Check check) {
        ProducerBook book = new ProducerBook();
        book.offers(500, 1, 1, 0, 999);
        book.offers(500, 2, 1, 0, 999);
        check.refusesArgument("n 501", () -> book.offers(501, 3, 0, 0, 0));
        check.refusesArgument("last 1000", () -> book.offers(1, 3, 0, 0, 1000));
        check.refusesArgument("sequence 0", () -> book.offers(1, -1, -1, 0, 0));
    }
}
