/** Promise 7: batch. */
public final class BatchTest {
    public static void main(String[] args) {
        Check check = new Check();
        numbers(check);
        whetherKnown(check);
        fromZero(check);
        noSuchBatch(check);
        noSuchBatchAnyMore(check);
        noSuchBatchInAnEmptyLog(check);
        fullLog(check);
        whatNoneOfThese(check);
        check.end();
    }

    private static void numbers(Check check) {
        check.sentence("what = 0 its BASE, 1 its producer, 2 its epoch, 3 its sequence, 4 its LAST");
        ProducerBook book = new ProducerBook();
        book.offer(Long.MAX_VALUE, 32767, Integer.MAX_VALUE, 999);
        book.offer(-1, -1, -1, 5);
        book.offer(0, 1, 2, 3);
        check.bases(book, 0, 1000, 1006);
        check.batch(book, 0, Long.MAX_VALUE, 32767, Integer.MAX_VALUE, 999, 1);
        check.batch(book, 1, -1, -1, -1, 5, 0);
        check.batch(book, 2, 0, 1, 2, 3, 1);
        book.offer(1, 0, 0, 0);
        check.batch(book, 3, 1, 0, 0, 0, 1);
    }

    private static void whetherKnown(Check check) {
        check.sentence("5 whether the log knows it, 1 or 0");
        ProducerBook book = new ProducerBook();
        book.offers(4, 1, 0, 0, 0);
        book.offers(6, 2, 0, 0, 0);
        book.offers(3, 1, 1, 0, 0);
        long[] due = {0, 0, 1, 1, 0, 1, 1, 1, 1, 1, 1, 1, 1};
        for (int k = 0; k < due.length; k++) {
            check.is("batch(" + k + ", 5)", book.batch(k, 5), due[k]);
        }
        book.drop(1);
        for (int k = 0; k < due.length - 1; k++) {
            check.is("behind drop, batch(" + k + ", 5)", book.batch(k, 5), due[k + 1]);
        }
        book.thin();
        for (int k = 0; k < 10; k++) {
            check.is("behind thin, batch(" + k + ", 5)", book.batch(k, 5), 1);
        }
    }

    private static void fromZero(Check check) {
        check.sentence("Of batch k (from 0)");
        ProducerBook book = Books.with(3);
        check.is("batch(0, 0)", book.batch(0, 0), 0);
        check.is("batch(2, 0)", book.batch(2, 0), 2);
        book.drop(1);
        check.is("batch(0, 0) behind drop", book.batch(0, 0), 1);
        check.is("batch(1, 0) behind drop", book.batch(1, 0), 2);
    }

    private static void noSuchBatch(Check check) {
        check.sentence("or there is no such batch");
        ProducerBook book = Books.with(3);
        int[] wrong = {Integer.MIN_VALUE, -2000, -1, 3, 4, 1999, 2000, 2001, Integer.MAX_VALUE};
        for (int k : wrong) {
            for (int what = -1; what <= 6; what++) {
                int one = what;
                check.refusesArgument("batch(" + k + ", " + what + ")", () -> book.batch(k, one));
            }
        }
    }

    private static void noSuchBatchAnyMore(Check check) {
        check.sentence("or there is no such batch");
        ProducerBook book = Books.with(7);
        book.drop(1);
        check.is("batch(5, 0)", book.batch(5, 0), 6);
        check.refusesArgument("batch(6, 0) behind drop", () -> book.batch(6, 0));
        book.thin();
        check.is("batch(4, 0)", book.batch(4, 0), 6);
        check.refusesArgument("batch(5, 0) behind thin", () -> book.batch(5, 0));
        check.refusesArgument("batch(5, 5) behind thin", () -> book.batch(5, 5));
    }

    private static void noSuchBatchInAnEmptyLog(Check check) {
        check.sentence("or there is no such batch");
        ProducerBook book = new ProducerBook();
        for (int what = 0; what <= 5; what++) {
            int one = what;
            check.refusesArgument("of a new one, batch(0, " + what + ")", () -> book.batch(0, one));
            check.refusesArgument("of a new one, batch(-1, " + what + ")", () -> book.batch(-1, one));
        }
        book.offer(1, 0, 0, 0);
        book.drop(1);
        for (int what = 0; what <= 5; what++) {
            int one = what;
            check.refusesArgument("got empty, batch(0, " + what + ")", () -> book.batch(0, one));
        }
    }

    private static void fullLog(Check check) {
        check.sentence("THE LOG has batches, 2000 at most, in a row");
        ProducerBook book = Books.fullByBatches();
        check.is("batch(1999, 0)", book.batch(1999, 0), 1999);
        check.batch(book, 0, 0, 1, 0, 0, 0);
        check.batch(book, 1994, 3, 1, 494, 0, 0);
        check.batch(book, 1995, 3, 1, 495, 0, 1);
        check.batch(book, 1999, 3, 1, 499, 0, 1);
        for (int what = 0; what <= 5; what++) {
            int one = what;
            check.refusesArgument("batch(2000, " + what + ")", () -> book.batch(2000, one));
            check.refusesArgument("batch(-1, " + what + ")", () -> book.batch(-1, one));
        }
    }

    private static void whatNoneOfThese(Check check) {
        check.sentence("Illegal argument: also if what is none of these.");
        ProducerBook book = Books.with(3);
        int[] wrong = {Integer.MIN_VALUE, -2, -1, 6, 7, Integer.MAX_VALUE};
        for (int what : wrong) {
            check.refusesArgument("batch(0, " + what + ")", () -> book.batch(0, what));
            check.refusesArgument("batch(2, " + what + ")", () -> book.batch(2, what));
            check.refusesArgument("of none, " + what, () -> new ProducerBook().batch(0, what));
        }
    }
}
