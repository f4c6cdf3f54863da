/** The section "Terms", which all promises rest on, and how long an object is used. */
public final class TermsTest {
    private static final int GAP = ProducerBook.GAP;
    private static final int TOP = Integer.MAX_VALUE;

    public static void main(String[] args) {
        Check check = new Check();
        onceAndInOrder(check);
        replacedComesInNoMore(check);
        mostBatches(check);
        endGrows(check);
        endGrowsWithNothingElse(check);
        latestFive(check);
        allIfLess(check);
        thatAreInTheLog(check);
        notWithoutProducer(check);
        latest(check);
        nextSequenceWraps(check);
        constants(check);
        calls512(check);
        check.end();
    }

    private static void onceAndInOrder(Check check) {
        check.sentence("each is there once, in its producer's order");
        ProducerBook book = Books.with(1);
        for (int sequence = 1; sequence <= 20; sequence++) {
            check.is("too early", book.offer(1, 1, sequence + 1, 0), GAP);
            check.is("in time", book.offer(1, 1, sequence, 0), sequence);
            check.is("again", book.offer(1, 1, sequence, 0), sequence);
        }
        for (int k = 0; k < 21; k++) {
            check.is("batch(" + k + ", 3)", book.batch(k, 3), k);
        }
        check.is("count(0)", book.count(0), 21);
    }

    private static void replacedComesInNoMore(Check check) {
        check.sentence("a producer that was replaced comes in no more");
        ProducerBook book = Books.with(3);
        check.is("the one that replaces it", book.offer(1, 2, 0, 0), 3);
        check.is("its next one", book.offer(1, 1, 3, 0), ProducerBook.FENCED);
        check.is("its latest one again", book.offer(1, 1, 2, 0), ProducerBook.FENCED);
        check.is("many of it", book.offers(500, 1, 1, 0, 0), 0);
        check.bases(book, 0, 1, 2, 3);
    }

    private static void mostBatches(Check check) {
        check.sentence("THE LOG has batches, 2000 at most, in a row");
        ProducerBook book = Books.with(1999);
        check.is("the 2000th", book.offer(1, 1, 1999, 0), 1999);
        check.refusesState("the 2001st", () -> book.offer(1, 1, 2000, 0));
        check.is("count(0)", book.count(0), 2000);
        for (int k = 0; k < 2000; k += 10) {
            check.is("batch(" + k + ", 3)", book.batch(k, 3), k);
        }
        check.is("batch(1999, 3)", book.batch(1999, 3), 1999);
    }

    private static void endGrows(Check check) {
        check.sentence("END, 0 at first, is the BASE of the next one, and grows by LAST and 1 with it.");
        ProducerBook book = new ProducerBook();
        check.is("count(2)", book.count(2), 0);
        check.is("the first one's BASE", book.offer(1, 0, 0, 0), 0);
        check.is("count(2)", book.count(2), 1);
        check.is("the next one's BASE", book.offer(2, 0, 0, 999), 1);
        check.is("count(2)", book.count(2), 1001);
        check.is("the next one's BASE", book.offer(-1, -1, -1, 1), 1001);
        check.is("count(2)", book.count(2), 1003);
        check.is("offers", book.offers(500, 3, 0, 0, 99), 500);
        check.is("count(2)", book.count(2), 51003);
        check.is("batch(502, 0)", book.batch(502, 0), 50903);
    }

    private static void endGrowsWithNothingElse(Check check) {
        check.sentence("END, 0 at first, is the BASE of the next one, and grows by LAST and 1 with it.");
        ProducerBook book = Books.with(3);
        book.offer(1, 1, 2, 0);
        check.is("count(2) behind a known one", book.count(2), 3);
        book.offer(1, 0, 3, 0);
        check.is("count(2) behind a fenced one", book.count(2), 3);
        book.offer(1, 1, 9, 0);
        check.is("count(2) behind a gap", book.count(2), 3);
        book.drop(1);
        check.is("count(2) behind drop", book.count(2), 3);
        book.thin();
        check.is("count(2) behind thin", book.count(2), 3);
        book.drop(2000);
        check.is("count(2) of an empty log", book.count(2), 3);
        check.is("the next one's BASE", book.offer(1, 0, 0, 0), 3);
    }

    private static void latestFive(Check check) {
        check.sentence("are the latest five (all, if less) of its batches that are in the log");
        ProducerBook book = Books.with(5);
        check.known(book, 1, 5, 1, 5, 4, 0);
        check.is("batch(0, 5) of five", book.batch(0, 5), 1);
        book.offer(1, 1, 5, 0);
        check.known(book, 1, 5, 1, 6, 5, 1);
        check.is("batch(0, 5) of six", book.batch(0, 5), 0);
        check.is("batch(1, 5) of six", book.batch(1, 5), 1);
        book.offers(494, 1, 1, 6, 0);
        check.known(book, 1, 5, 1, 500, 499, 495);
        check.is("batch(494, 5) of 500", book.batch(494, 5), 0);
        check.is("batch(495, 5) of 500", book.batch(495, 5), 1);
    }

    private static void allIfLess(Check check) {
        check.sentence("are the latest five (all, if less) of its batches that are in the log");
        check.known(Books.with(0), 1, 0, -1, -1, -1, -1);
        for (int batches = 1; batches <= 4; batches++) {
            ProducerBook book = Books.with(batches);
            check.known(book, 1, batches, 1, batches, batches - 1, 0);
            check.is("batch(0, 5)", book.batch(0, 5), 1);
        }
    }

    private static void thatAreInTheLog(Check check) {
        check.sentence("what goes from the log is not known any longer");
        ProducerBook book = Books.with(6);
        for (int gone = 1; gone <= 5; gone++) {
            book.drop(1);
            int left = 6 - gone;
            check.known(book, 1, left, 1, 6, 5, gone);
        }
        book.drop(1);
        check.known(book, 1, 0, -1, -1, -1, -1);
        check.is("count(1)", book.count(1), 0);
    }

    private static void notWithoutProducer(Check check) {
        check.sentence("WHAT THE LOG KNOWS of a producer (not -1)");
        ProducerBook book = new ProducerBook();
        book.offers(6, -1, -1, -1, 0);
        book.offer(0, 0, 0, 0);
        for (int k = 0; k < 6; k++) {
            check.is("batch(" + k + ", 5)", book.batch(k, 5), 0);
        }
        check.is("batch(6, 5) of producer 0", book.batch(6, 5), 1);
        check.is("count(1)", book.count(1), 1);
        check.is("the same once more comes in", book.offer(-1, -1, -1, 0), 7);
    }

    private static void latest(Check check) {
        check.sentence("L is the latest of these.");
        ProducerBook book = new ProducerBook();
        book.offer(1, 5, 70, 9);
        book.offer(1, 6, 0, 2);
        book.offer(2, 9, 500, 0);
        check.known(book, 1, 2, 6, 3, 10, 0);
        book.offer(1, 5, 80, 0);
        check.known(book, 1, 2, 6, 3, 10, 0);
    }

    private static void nextSequenceWraps(Check check) {
        check.sentence("THE NEXT SEQUENCE is that of L, LAST of L and 1, modulo 2^31.");
        long[][] rows = {
            {0, 0, 1}, {0, 999, 1000}, {TOP - 1, 0, TOP}, {TOP, 0, 0}, {TOP - 1, 1, 0},
            {TOP, 1, 1}, {TOP, 999, 999}, {TOP - 999, 998, TOP}, {TOP - 999, 999, 0},
            {TOP - 998, 999, 1}};
        for (long[] row : rows) {
            ProducerBook book = new ProducerBook();
            book.offer(1, 0, (int) row[0], (int) row[1]);
            check.is("behind " + row[0] + " with " + row[1], book.known(1, 2), row[2]);
            check.is("it comes in", book.offer(1, 0, (int) row[2], 0), row[1] + 1);
        }
    }

    private static void constants(Check check) {
        check.sentence("The constants: `NONE = -1`, `FENCED = -6`, `GAP = -7`");
        check.is("NONE", ProducerBook.NONE, -1);
        check.is("FENCED", ProducerBook.FENCED, -6);
        check.is("GAP", ProducerBook.GAP, -7);
    }

    private static void calls512(Check check) {
        check.sentence("An object is used for at most 512 calls after it has been made");
        ProducerBook ordinary = new ProducerBook();
        for (int i = 0; i < 511; i++) {
            check.is("call " + i, ordinary.offer(i % 3, 0, i / 3, 0), i);
        }
        check.is("the 512th call", ordinary.count(0), 511);
        ProducerBook refused = new ProducerBook();
        for (int i = 0; i < 511; i++) {
            check.refusesArgument("call " + i, () -> refused.offer(1, 0, 0, 1000));
        }
        check.is("the 512th call", refused.offer(1, 0, 0, 0), 0);
    }
}
