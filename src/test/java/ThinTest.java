/** Promise 5: thin. */
public final class ThinTest {
    public static void main(String[] args) {
        Check check = new Check();
        unknownOnesGo(check);
        nothingGoes(check);
        allGo(check);
        knownStaysAsItWas(check);
        aFullLog(check);
        check.end();
    }

    private static void unknownOnesGo(Check check) {
        ProducerBook book = new ProducerBook();
        book.offer(-1, -1, -1, 0);
        book.offers(4, 1, 0, 0, 1);
        book.offer(2, 3, 9, 0);
        book.offers(3, 1, 0, 8, 1);
        book.offer(-1, -1, -1, 0);
        check.is("thin()", book.thin(), 4);
        check.bases(book, 5, 7, 9, 10, 12, 14);
        check.batch(book, 0, 1, 0, 4, 1, 1);
        check.batch(book, 1, 1, 0, 6, 1, 1);
        check.batch(book, 2, 2, 3, 9, 0, 1);
        check.batch(book, 5, 1, 0, 12, 1, 1);
        check.is("END stays", book.count(2), 17);
        check.is("count(1)", book.count(1), 2);
        check.is("again", book.thin(), 0);
    }

    private static void nothingGoes(Check check) {
        ProducerBook book = new ProducerBook();
        book.offers(5, 1, 0, 0, 0);
        book.offers(5, 2, 0, 0, 0);
        check.is("thin()", book.thin(), 0);
        check.is("count(0)", book.count(0), 10);
        book.offer(1, 1, 0, 0);
        check.is("one of an old epoch", book.thin(), 1);
        check.bases(book, 1, 2, 3, 4, 5, 6, 7, 8, 9, 10);
    }

    private static void allGo(Check check) {
        ProducerBook book = new ProducerBook();
        book.offers(500, -1, -1, -1, 0);
        check.is("all without producer", book.thin(), 500);
        check.is("count(0)", book.count(0), 0);
        check.is("count(2)", book.count(2), 500);
        check.is("the next one's BASE", book.offer(1, 0, 0, 0), 500);
    }

    private static void knownStaysAsItWas(Check check) {
        ProducerBook book = new ProducerBook();
        book.offers(9, 1, 2, 0, 0);
        book.thin();
        check.is("known(1, 0)", book.known(1, 0), 5);
        check.is("known(1, 1)", book.known(1, 1), 2);
        check.is("known(1, 2)", book.known(1, 2), 9);
        check.is("known(1, 3)", book.known(1, 3), 8);
        check.is("known(1, 4)", book.known(1, 4), 4);
        check.is("sent again, there", book.offer(1, 2, 4, 0), 4);
        check.is("sent again, gone", book.offer(1, 2, 3, 0), ProducerBook.GAP);
        check.is("fenced", book.offer(1, 1, 9, 0), ProducerBook.FENCED);
        check.is("the next one", book.offer(1, 2, 9, 0), 9);
        check.is("thin()", book.thin(), 1);
        book.drop(4);
        check.is("thin() of one", book.thin(), 0);
        check.bases(book, 9);
    }

    private static void aFullLog(Check check) {
        ProducerBook book = new ProducerBook();
        for (int i = 0; i < 4; i++) {
            book.offers(500, i, 0, 0, 0);
        }
        check.is("thin()", book.thin(), 1980);
        check.is("count(0)", book.count(0), 20);
        check.is("batch(19, 0)", book.batch(19, 0), 1999);
        check.is("room again", book.offers(500, 3, 0, 500, 0), 500);
    }
}
