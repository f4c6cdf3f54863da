/** Promise 7: batch. */
public final class BatchTest {
    public static void main(String[] args) {
        Check check = new Check();
        numbers(check);
        whetherKnown(check);
        bounds(check);
        theLastOfAFullLog(check);
        check.end();
    }

    private static void numbers(Check check) {
        ProducerBook book = new ProducerBook();
        book.offer(Long.MAX_VALUE, 32767, Integer.MAX_VALUE, 999);
        book.offer(-1, -1, -1, 5);
        book.offer(0, 1, 2, 3);
        check.bases(book, 0, 1000, 1006);
        check.batch(book, 0, Long.MAX_VALUE, 32767, Integer.MAX_VALUE, 999, 1);
        check.batch(book, 1, -1, -1, -1, 5, 0);
        check.batch(book, 2, 0, 1, 2, 3, 1);
        book.drop(1);
        check.bases(book, 1000, 1006);
        check.batch(book, 0, -1, -1, -1, 5, 0);
    }

    private static void whetherKnown(Check check) {
        ProducerBook book = new ProducerBook();
        book.offers(4, 1, 0, 0, 0);
        book.offers(6, 2, 0, 0, 0);
        book.offers(3, 1, 1, 0, 0);
        long[] due = {0, 0, 1, 1, 0, 1, 1, 1, 1, 1, 1, 1, 1};
        for (int k = 0; k < due.length; k++) {
            check.is("batch(" + k + ", 5)", book.batch(k, 5), due[k]);
        }
        book.drop(1);
        for (int k = 0; k < due.length - 1; k++) {
            check.is("behind drop, batch(" + k + ", 5)", book.batch(k, 5), due[k + 1]);
        }
        book.thin();
        for (int k = 0; k < 10; k++) {
            check.is("behind thin, batch(" + k + ", 5)", book.batch(k, 5), 1);
        }
    }

    private static void bounds(Check check) {
        ProducerBook book = new ProducerBook();
        check.refusesArgument("batch(0, 0) of none", () -> book.batch(0, 0));
        book.offers(3, 1, 0, 0, 0);
        int[] noBatch = {-1, 3, 1999, 2000, Integer.MIN_VALUE, Integer.MAX_VALUE};
        for (int k : noBatch) {
            check.refusesArgument("batch(" + k + ", 0)", () -> book.batch(k, 0));
            check.refusesArgument("batch(" + k + ", 5)", () -> book.batch(k, 5));
        }
        int[] none = {-1, 6, Integer.MIN_VALUE, Integer.MAX_VALUE};
        for (int what : none) {
            check.refusesArgument("batch(2, " + what + ")", () -> book.batch(2, what));
        }
        book.drop(1);
        check.refusesArgument("batch(2, 0) behind drop", () -> book.batch(2, 0));
        book.offer(-1, -1, -1, 0);
        book.thin();
        check.refusesArgument("batch(2, 0) behind thin", () -> book.batch(2, 0));
        check.is("batch(1, 0)", book.batch(1, 0), 2);
    }

    private static void theLastOfAFullLog(Check check) {
        ProducerBook book = new ProducerBook();
        for (int i = 0; i < 4; i++) {
            book.offers(500, i, 0, 0, 0);
        }
        check.is("batch(1999, 0)", book.batch(1999, 0), 1999);
        check.refusesArgument("batch(2000, 0)", () -> book.batch(2000, 0));
    }
}
