/** Promise 8: count. */
public final class CountTest {
    public static void main(String[] args) {
        Check check = new Check();
        counts(check);
        manyProducers(check);
        bounds(check);
        check.end();
    }

    private static void is(Check check, ProducerBook book, long... due) {
        for (int what = 0; what < due.length; what++) {
            check.is("count(" + what + ")", book.count(what), due[what]);
        }
    }

    private static void counts(Check check) {
        ProducerBook book = new ProducerBook();
        is(check, book, 0, 0, 0);
        book.offer(-1, -1, -1, 9);
        is(check, book, 1, 0, 10);
        book.offers(7, 4, 0, 0, 0);
        is(check, book, 8, 1, 17);
        book.offers(2, 5, 0, 0, 99);
        is(check, book, 10, 2, 217);
        book.offer(5, 0, 9, 0);
        book.offer(5, 0, 100, 99);
        is(check, book, 10, 2, 217);
        book.offer(4, 1, 0, 0);
        is(check, book, 11, 2, 218);
        book.thin();
        is(check, book, 7, 2, 218);
        book.drop(6);
        is(check, book, 1, 1, 218);
        book.drop(1);
        is(check, book, 0, 0, 218);
    }

    private static void manyProducers(Check check) {
        ProducerBook book = new ProducerBook();
        for (int i = 0; i < 500; i++) {
            book.offer(i * (1L << 32), 0, i, 0);
        }
        is(check, book, 500, 500, 500);
        book.drop(100);
        is(check, book, 400, 400, 500);
        book.offers(500, 499L << 32, 0, 500, 0);
        is(check, book, 900, 400, 1000);
    }

    private static void bounds(Check check) {
        ProducerBook book = new ProducerBook();
        int[] none = {-1, 3, Integer.MIN_VALUE, Integer.MAX_VALUE};
        for (int what : none) {
            check.refusesArgument("count(" + what + ")", () -> book.count(what));
        }
    }
}
