/** Promise 1: a new object. */
public final class NewObjectTest {
    public static void main(String[] args) {
        Check check = new Check();
        emptyLog(check);
        emptyLogGivesNothing(check);
        endAtFirst(check);
        objectsAreApart(check);
        check.end();
    }

    private static void emptyLog(Check check) {
        check.sentence("An empty log.");
        ProducerBook book = new ProducerBook();
        check.counts(book, 0, 0, 0);
        check.known(book, 0, 0, -1, -1, -1, -1);
        check.known(book, Long.MAX_VALUE, 0, -1, -1, -1, -1);
        for (int what = 0; what <= 5; what++) {
            int one = what;
            check.refusesArgument("batch(0, " + what + ")", () -> book.batch(0, one));
        }
    }

    private static void emptyLogGivesNothing(Check check) {
        check.sentence("An empty log.");
        ProducerBook book = new ProducerBook();
        check.is("drop(0)", book.drop(0), 0);
        check.is("drop(1)", book.drop(1), 0);
        check.is("drop(2000)", book.drop(2000), 0);
        check.is("thin()", book.thin(), 0);
        check.counts(book, 0, 0, 0);
        check.is("it takes a batch as before", book.offer(7, 32767, 9, 0), 0);
    }

    private static void endAtFirst(Check check) {
        check.sentence("END, 0 at first, is the BASE of the next one");
        check.is("count(2)", new ProducerBook().count(2), 0);
        check.is("BASE", new ProducerBook().offer(5, 0, 10, 4), 0);
        check.is("BASE without producer", new ProducerBook().offer(-1, -1, -1, 999), 0);
    }

    private static void objectsAreApart(Check check) {
        check.sentence("An empty log.");
        ProducerBook one = new ProducerBook();
        one.offer(1, 0, 0, 9);
        ProducerBook other = new ProducerBook();
        check.counts(other, 0, 0, 0);
        check.is("first offer to another", other.offer(1, 0, 5, 0), 0);
        check.counts(one, 1, 1, 10);
    }
}
