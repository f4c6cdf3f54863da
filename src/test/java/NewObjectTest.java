/** Promise 1: a new object has an empty log. */
public final class NewObjectTest {
    public static void main(String[] args) {
        Check check = new Check();
        ProducerBook book = new ProducerBook();
        for (int what = 0; what <= 2; what++) {
            check.is("count(" + what + ")", book.count(what), 0);
        }
        check.is("known(0, 0)", book.known(0, 0), 0);
        for (int what = 1; what <= 4; what++) {
            check.is("known(0, " + what + ")", book.known(0, what), ProducerBook.NONE);
        }
        check.refusesArgument("batch(0, 0)", () -> book.batch(0, 0));
        check.is("drop(2000)", book.drop(2000), 0);
        check.is("thin()", book.thin(), 0);
        objectsAreApart(check);
        constants(check);
        check.end();
    }

    private static void objectsAreApart(Check check) {
        ProducerBook one = new ProducerBook();
        one.offer(1, 0, 0, 9);
        ProducerBook other = new ProducerBook();
        check.is("count(0) of another", other.count(0), 0);
        check.is("count(2) of another", other.count(2), 0);
        check.is("first offer to another", other.offer(1, 0, 5, 0), 0);
        check.is("count(2) of the one", one.count(2), 10);
    }

    private static void constants(Check check) {
        check.is("NONE", ProducerBook.NONE, -1);
        check.is("FENCED", ProducerBook.FENCED, -6);
        check.is("GAP", ProducerBook.GAP, -7);
    }
}
