/** Promise 6: known. */
public final class KnownTest {
    public static void main(String[] args) {
        Check check = new Check();
        grows(check);
        nextSequence(check);
        apart(check);
        goes(check);
        bounds(check);
        check.end();
    }

    private static void is(Check check, ProducerBook book, long producer, long... due) {
        for (int what = 0; what < due.length; what++) {
            check.is("known(" + producer + ", " + what + ")", book.known(producer, what), due[what]);
        }
    }

    private static void grows(Check check) {
        ProducerBook book = new ProducerBook();
        is(check, book, 3, 0, -1, -1, -1, -1);
        book.offer(3, 7, 20, 1);
        is(check, book, 3, 1, 7, 22, 0, 0);
        book.offer(3, 8, 0, 0);
        is(check, book, 3, 2, 8, 1, 2, 0);
        book.offers(3, 3, 8, 1, 9);
        is(check, book, 3, 5, 8, 31, 23, 0);
        book.offer(3, 8, 31, 0);
        is(check, book, 3, 5, 8, 32, 33, 2);
        book.offer(3, 9, 0, 0);
        is(check, book, 3, 5, 9, 1, 34, 3);
    }

    private static void nextSequence(Check check) {
        ProducerBook book = new ProducerBook();
        book.offer(1, 0, Integer.MAX_VALUE, 0);
        is(check, book, 1, 1, 0, 0, 0, 0);
        book.offer(2, 0, Integer.MAX_VALUE, 999);
        is(check, book, 2, 1, 0, 999, 1, 1);
        book.offer(3, 0, Integer.MAX_VALUE - 1, 0);
        is(check, book, 3, 1, 0, Integer.MAX_VALUE, 1001, 1001);
    }

    private static void apart(Check check) {
        ProducerBook book = new ProducerBook();
        book.offers(2, 0, 1, 0, 0);
        book.offers(2, Long.MAX_VALUE, 2, 50, 0);
        book.offers(2, 1L << 32, 3, 70, 0);
        book.offers(2, 0, 1, 2, 0);
        book.offers(6, -1, -1, -1, 0);
        is(check, book, 0, 4, 1, 4, 7, 0);
        is(check, book, Long.MAX_VALUE, 2, 2, 52, 3, 2);
        is(check, book, 1L << 32, 2, 3, 72, 5, 4);
        is(check, book, 1, 0, -1, -1, -1, -1);
    }

    private static void goes(Check check) {
        ProducerBook book = new ProducerBook();
        book.offers(6, 1, 4, 0, 0);
        book.drop(4);
        is(check, book, 1, 2, 4, 6, 5, 4);
        book.drop(1);
        is(check, book, 1, 1, 4, 6, 5, 5);
        book.drop(1);
        is(check, book, 1, 0, -1, -1, -1, -1);
    }

    private static void bounds(Check check) {
        ProducerBook book = new ProducerBook();
        book.offer(1, 0, 0, 0);
        book.offer(-1, -1, -1, 0);
        for (int what = -1; what <= 5; what++) {
            int one = what;
            check.refusesArgument("producer -1", () -> book.known(-1, one));
            check.refusesArgument("producer, least", () -> book.known(Long.MIN_VALUE, one));
        }
        int[] none = {-1, 5, Integer.MIN_VALUE, Integer.MAX_VALUE};
        for (int what : none) {
            check.refusesArgument("known(1, " + what + ")", () -> book.known(1, what));
            check.refusesArgument("known(2, " + what + ")", () -> book.known(2, what));
        }
    }
}
