/** Promise 4: drop. */
public final class DropTest {
    private static final int GAP = ProducerBook.GAP;

    public static void main(String[] args) {
        Check check = new Check();
        firstOnesGo(check);
        whatGoesIsNotKnown(check);
        bounds(check);
        aFullLog(check);
        check.end();
    }

    private static void firstOnesGo(Check check) {
        ProducerBook book = new ProducerBook();
        book.offer(1, 2, 3, 4);
        book.offer(-1, -1, -1, 1);
        book.offer(6, 7, 8, 9);
        book.offer(1, 2, 8, 0);
        check.is("drop(0)", book.drop(0), 0);
        check.bases(book, 0, 5, 7, 17);
        check.is("drop(2)", book.drop(2), 2);
        check.bases(book, 7, 17);
        check.batch(book, 0, 6, 7, 8, 9, 1);
        check.batch(book, 1, 1, 2, 8, 0, 1);
        check.is("END stays", book.count(2), 18);
        check.is("drop(3) of two", book.drop(3), 2);
        check.is("drop(3) of none", book.drop(3), 0);
        check.is("count(0)", book.count(0), 0);
        check.is("END stays", book.count(2), 18);
        check.is("the next one's BASE", book.offer(1, 0, 0, 0), 18);
    }

    private static void whatGoesIsNotKnown(Check check) {
        ProducerBook book = new ProducerBook();
        book.offers(7, 1, 1, 0, 0);
        book.drop(2);
        check.is("five are left", book.known(1, 0), 5);
        book.drop(1);
        check.is("four are left", book.known(1, 0), 4);
        check.is("the first one known", book.known(1, 4), 3);
        check.is("sent again, gone", book.offer(1, 1, 2, 0), GAP);
        check.is("sent again, there", book.offer(1, 1, 3, 0), 3);
        check.is("the next one", book.offer(1, 1, 7, 0), 7);
        check.is("five again", book.known(1, 0), 5);
        book.offer(1, 1, 8, 0);
        check.is("batch(0, 5)", book.batch(0, 5), 0);
        check.is("batch(1, 5)", book.batch(1, 5), 1);
        book.drop(6);
        check.is("none is left", book.known(1, 0), 0);
        check.is("an unknown producer starts anywhere", book.offer(1, 0, 44, 0), 9);
    }

    private static void bounds(Check check) {
        ProducerBook book = new ProducerBook();
        book.offers(3, 1, 0, 0, 0);
        check.refusesArgument("drop(-1)", () -> book.drop(-1));
        check.refusesArgument("drop(2001)", () -> book.drop(2001));
        check.refusesArgument("drop(least)", () -> book.drop(Integer.MIN_VALUE));
        check.refusesArgument("drop(greatest)", () -> book.drop(Integer.MAX_VALUE));
        check.bases(book, 0, 1, 2);
        check.is("drop(2000)", book.drop(2000), 3);
    }

    private static void aFullLog(Check check) {
        ProducerBook book = new ProducerBook();
        for (int i = 0; i < 4; i++) {
            book.offers(500, i, 0, 0, 0);
        }
        check.is("drop(1999)", book.drop(1999), 1999);
        check.bases(book, 1999);
        check.is("known(3, 2)", book.known(3, 2), 500);
        check.is("drop(2000)", book.drop(2000), 1);
        check.is("count(0)", book.count(0), 0);
        for (int i = 0; i < 4; i++) {
            check.is("offers " + i, book.offers(500, i, 0, 9, 0), 500);
        }
        check.is("all at once", book.drop(2000), 2000);
        check.is("count(2)", book.count(2), 4000);
    }
}
