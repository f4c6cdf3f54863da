/** Promise 4: drop. */
public final class DropTest {
    private static final int GAP = ProducerBook.GAP;

    public static void main(String[] args) {
        Check check = new Check();
        firstOnesGo(check);
        noneGo(check);
        allIfLess(check);
        emptyLog(check);
        fullLog(check);
        numberOutOfBounds(check);
        whatGoesIsNotKnown(check);
        whatWasNotKnownStaysSo(check);
        whatComesIntoItsPlaceIsKnown(check);
        check.end();
    }

    private static void firstOnesGo(Check check) {
        check.sentence("The first n batches go (all, if there are less): how many.");
        ProducerBook book = new ProducerBook();
        book.offer(1, 2, 3, 4);
        book.offer(-1, -1, -1, 1);
        book.offer(6, 7, 8, 9);
        book.offer(1, 2, 8, 0);
        check.is("drop(2)", book.drop(2), 2);
        check.bases(book, 7, 17);
        check.batch(book, 0, 6, 7, 8, 9, 1);
        check.batch(book, 1, 1, 2, 8, 0, 1);
        check.counts(book, 2, 2, 18);
        check.is("drop(1)", book.drop(1), 1);
        check.bases(book, 17);
        check.batch(book, 0, 1, 2, 8, 0, 1);
    }

    private static void noneGo(Check check) {
        check.sentence("n is not 0 .. 2000");
        ProducerBook book = Books.mixed();
        check.is("drop(0)", book.drop(0), 0);
        check.is("the log", Books.look(book), Books.look(Books.mixed()));
        ProducerBook full = Books.fullByBatches();
        check.is("drop(0) of a full log", full.drop(0), 0);
        check.is("count(0)", full.count(0), 2000);
    }

    private static void allIfLess(Check check) {
        check.sentence("(all, if there are less)");
        check.is("one less than there are", Books.with(10).drop(9), 9);
        check.is("as many as there are", Books.with(10).drop(10), 10);
        check.is("one more than there are", Books.with(10).drop(11), 10);
        check.is("2000", Books.with(10).drop(2000), 10);
        ProducerBook book = Books.with(10);
        book.drop(11);
        check.counts(book, 0, 0, 10);
        check.is("the next one's BASE", book.offer(1, 0, 0, 0), 10);
        check.bases(book, 10);
    }

    private static void emptyLog(Check check) {
        check.sentence("(all, if there are less)");
        ProducerBook book = Books.with(3);
        check.is("drop(3)", book.drop(3), 3);
        check.is("drop(0) of none", book.drop(0), 0);
        check.is("drop(1) of none", book.drop(1), 0);
        check.is("drop(2000) of none", book.drop(2000), 0);
        check.counts(book, 0, 0, 3);
    }

    private static void fullLog(Check check) {
        check.sentence("The first n batches go (all, if there are less): how many.");
        ProducerBook book = Books.fullByBatches();
        check.is("drop(1999)", book.drop(1999), 1999);
        check.bases(book, 1999);
        check.known(book, 3, 1, 1, 500, 1999, 1999);
        check.is("drop(2000)", book.drop(2000), 1);
        check.is("count(0)", book.count(0), 0);
        for (int i = 0; i < 4; i++) {
            check.is("offers " + i, book.offers(500, i, 0, 9, 0), 500);
        }
        check.is("all at once", book.drop(2000), 2000);
        check.counts(book, 0, 0, 4000);
    }

    private static void numberOutOfBounds(Check check) {
        check.sentence("Illegal argument: n is not 0 .. 2000.");
        ProducerBook[] books = {new ProducerBook(), Books.with(3), Books.fullByBatches()};
        int[] wrong = {Integer.MIN_VALUE, -2000, -2, -1, 2001, 2002, 65536, Integer.MAX_VALUE};
        for (ProducerBook book : books) {
            int count = book.count(0);
            for (int n : wrong) {
                check.refusesArgument("drop(" + n + ") of " + count, () -> book.drop(n));
            }
            check.is("nothing went", book.count(0), count);
            check.is("drop(0)", book.drop(0), 0);
            check.is("drop(2000)", book.drop(2000), count);
        }
    }

    private static void whatGoesIsNotKnown(Check check) {
        check.sentence("what goes from the log is not known any longer");
        ProducerBook book = Books.with(7);
        book.drop(2);
        check.is("five are left", book.known(1, 0), 5);
        book.drop(1);
        check.known(book, 1, 4, 1, 7, 6, 3);
        check.is("sent again, gone", book.offer(1, 1, 2, 0), GAP);
        check.is("sent again, there", book.offer(1, 1, 3, 0), 3);
        check.is("the next one", book.offer(1, 1, 7, 0), 7);
        check.is("five again", book.known(1, 0), 5);
        book.drop(5);
        check.is("none is left", book.known(1, 0), 0);
        check.is("a replaced producer is free again", book.offer(1, 0, 44, 0), 8);
    }

    private static void whatWasNotKnownStaysSo(Check check) {
        check.sentence("are the latest five (all, if less) of its batches that are in the log");
        ProducerBook book = Books.with(8);
        book.drop(1);
        check.is("batch(0, 5)", book.batch(0, 5), 0);
        check.is("batch(1, 5)", book.batch(1, 5), 0);
        check.is("batch(2, 5)", book.batch(2, 5), 1);
        check.known(book, 1, 5, 1, 8, 7, 3);
        check.is("one that is there, but not known", book.offer(1, 1, 2, 0), GAP);
    }

    private static void whatComesIntoItsPlaceIsKnown(Check check) {
        check.sentence("what goes from the log is not known any longer");
        ProducerBook book = new ProducerBook();
        book.offers(3, -1, -1, -1, 0);
        book.offers(7, 1, 0, 0, 0);
        book.drop(2000);
        book.offers(6, 2, 0, 50, 0);
        check.known(book, 2, 5, 0, 56, 15, 11);
        check.known(book, 1, 0, -1, -1, -1, -1);
        long[] due = {0, 1, 1, 1, 1, 1};
        for (int k = 0; k < due.length; k++) {
            check.is("batch(" + k + ", 5)", book.batch(k, 5), due[k]);
        }
        check.counts(book, 6, 1, 16);
    }
}
