/** Promise 6: known. */
public final class KnownTest {
    private static final int TOP = Integer.MAX_VALUE;

    public static void main(String[] args) {
        Check check = new Check();
        grows(check);
        fiveAtMost(check);
        nextSequenceWraps(check);
        apart(check);
        noneWithoutAny(check);
        noneAgain(check);
        producerOutOfBounds(check);
        whatNoneOfThese(check);
        fullLog(check);
        check.end();
    }

    private static void grows(Check check) {
        check.sentence("what = 0 how many batches, 1 the epoch of L, 2 the next sequence,"
                + " 3 the BASE of L, 4 the BASE of the first one known");
        ProducerBook book = new ProducerBook();
        book.offer(-1, -1, -1, 9);
        book.offer(3, 7, 20, 1);
        check.known(book, 3, 1, 7, 22, 10, 10);
        book.offer(3, 8, 0, 0);
        check.known(book, 3, 2, 8, 1, 12, 10);
        book.offers(3, 3, 8, 1, 9);
        check.known(book, 3, 5, 8, 31, 33, 10);
    }

    private static void fiveAtMost(Check check) {
        check.sentence("are the latest five (all, if less) of its batches that are in the log");
        ProducerBook book = Books.with(5);
        check.known(book, 1, 5, 1, 5, 4, 0);
        book.offer(1, 1, 5, 9);
        check.known(book, 1, 5, 1, 15, 5, 1);
        book.offer(1, 32767, 0, 0);
        check.known(book, 1, 5, 32767, 1, 15, 2);
    }

    private static void nextSequenceWraps(Check check) {
        check.sentence("THE NEXT SEQUENCE is that of L, LAST of L and 1, modulo 2^31.");
        ProducerBook book = new ProducerBook();
        book.offer(1, 0, TOP, 0);
        check.known(book, 1, 1, 0, 0, 0, 0);
        book.offer(2, 0, TOP, 999);
        check.known(book, 2, 1, 0, 999, 1, 1);
        book.offer(3, 0, TOP - 1, 0);
        check.known(book, 3, 1, 0, TOP, 1001, 1001);
    }

    private static void apart(Check check) {
        check.sentence("What the log knows of a producer");
        ProducerBook book = new ProducerBook();
        book.offers(2, 0, 1, 0, 0);
        book.offers(2, Long.MAX_VALUE, 2, 50, 0);
        book.offers(2, 1L << 32, 3, 70, 0);
        book.offers(2, 0, 1, 2, 0);
        book.offers(6, -1, -1, -1, 0);
        check.known(book, 0, 4, 1, 4, 7, 0);
        check.known(book, Long.MAX_VALUE, 2, 2, 52, 3, 2);
        check.known(book, 1L << 32, 2, 3, 72, 5, 4);
        check.known(book, 1, 0, -1, -1, -1, -1);
    }

    private static void noneWithoutAny(Check check) {
        check.sentence("NONE without any (for 1 to 4)");
        ProducerBook[] books = {new ProducerBook(), Books.mixed(), Books.fullByEnd()};
        for (ProducerBook book : books) {
            check.is("known(9, 0) is a number", book.known(9, 0), 0);
            for (int what = 1; what <= 4; what++) {
                check.is("known(9, " + what + ")", book.known(9, what), ProducerBook.NONE);
            }
        }
    }

    private static void noneAgain(Check check) {
        check.sentence("NONE without any (for 1 to 4)");
        ProducerBook book = Books.with(6);
        book.offer(2, 0, 0, 0);
        book.drop(4);
        check.known(book, 1, 2, 1, 6, 5, 4);
        book.drop(1);
        check.known(book, 1, 1, 1, 6, 5, 5);
        book.drop(1);
        check.known(book, 1, 0, -1, -1, -1, -1);
        check.known(book, 2, 1, 0, 1, 6, 6);
    }

    private static void producerOutOfBounds(Check check) {
        check.sentence("Illegal argument: also if the producer is below 0");
        ProducerBook book = Books.mixed();
        long[] wrong = {-1, -2, 1 - (1L << 32), Long.MIN_VALUE};
        for (long producer : wrong) {
            for (int what = -1; what <= 5; what++) {
                int one = what;
                check.refusesArgument("known(" + producer + ", " + what + ")",
                        () -> book.known(producer, one));
            }
        }
        check.is("known(0, 0)", book.known(0, 0), 0);
        check.is("known(greatest, 0)", book.known(Long.MAX_VALUE, 0), 0);
    }

    private static void whatNoneOfThese(Check check) {
        check.sentence("or what none of these");
        ProducerBook[] books = {new ProducerBook(), Books.mixed()};
        int[] wrong = {Integer.MIN_VALUE, -2, -1, 5, 6, TOP};
        for (ProducerBook book : books) {
            for (int what : wrong) {
                check.refusesArgument("of one known, " + what, () -> book.known(1, what));
                check.refusesArgument("of an unknown one, " + what, () -> book.known(9, what));
            }
        }
    }

    private static void fullLog(Check check) {
        check.sentence("What the log knows of a producer");
        ProducerBook batches = Books.fullByBatches();
        check.known(batches, 0, 5, 1, 500, 499, 495);
        check.known(batches, 3, 5, 1, 500, 1999, 1995);
        ProducerBook end = Books.fullByEnd();
        check.known(end, 1, 5, 1, 500000, 499000, 495000);
        check.known(end, 2, 5, 1, 500000, 999000, 995000);
    }
}
