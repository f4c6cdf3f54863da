/** Promise 5: thin. */
public final class ThinTest {
    public static void main(String[] args) {
        Check check = new Check();
        unknownOnesGo(check);
        emptyLog(check);
        nothingGoes(check);
        theSixthGoes(check);
        allGo(check);
        fullLog(check);
        fullOfKnownOnes(check);
        knownStaysAsItWas(check);
        endStays(check);
        check.end();
    }

    private static void unknownOnesGo(Check check) {
        check.sentence("All batches go, but those of a producer that the log knows: how many.");
        ProducerBook book = new ProducerBook();
        book.offer(-1, -1, -1, 0);
        book.offers(4, 1, 0, 0, 1);
        book.offer(2, 3, 9, 0);
        book.offers(3, 1, 0, 8, 1);
        book.offer(-1, -1, -1, 0);
        check.is("thin()", book.thin(), 4);
        check.bases(book, 5, 7, 9, 10, 12, 14);
        check.batch(book, 0, 1, 0, 4, 1, 1);
        check.batch(book, 1, 1, 0, 6, 1, 1);
        check.batch(book, 2, 2, 3, 9, 0, 1);
        check.batch(book, 3, 1, 0, 8, 1, 1);
        check.batch(book, 4, 1, 0, 10, 1, 1);
        check.batch(book, 5, 1, 0, 12, 1, 1);
        check.counts(book, 6, 2, 17);
        check.is("again", book.thin(), 0);
    }

    private static void emptyLog(Check check) {
        check.sentence("All batches go, but those of a producer that the log knows: how many.");
        ProducerBook book = new ProducerBook();
        check.is("thin() of a new one", book.thin(), 0);
        book.offer(1, 0, 0, 0);
        book.drop(1);
        check.is("thin() of one that got empty", book.thin(), 0);
        check.counts(book, 0, 0, 1);
    }

    private static void nothingGoes(Check check) {
        check.sentence("All batches go, but those of a producer that the log knows: how many.");
        ProducerBook book = new ProducerBook();
        book.offers(5, 1, 0, 0, 0);
        book.offers(5, 2, 0, 0, 0);
        book.offer(3, 0, 0, 0);
        check.is("thin()", book.thin(), 0);
        check.bases(book, 0, 1, 2, 3, 4, 5, 6, 7, 8, 9, 10);
    }

    private static void theSixthGoes(Check check) {
        check.sentence("are the latest five (all, if less) of its batches that are in the log");
        ProducerBook book = Books.with(5);
        check.is("five", book.thin(), 0);
        book.offer(1, 2, 0, 0);
        check.is("six, one of a greater epoch", book.thin(), 1);
        check.bases(book, 1, 2, 3, 4, 5);
    }

    private static void allGo(Check check) {
        check.sentence("WHAT THE LOG KNOWS of a producer (not -1)");
        ProducerBook book = new ProducerBook();
        book.offer(-1, -1, -1, 0);
        check.is("one without producer", book.thin(), 1);
        book.offers(500, -1, -1, -1, 0);
        check.is("500 without producer", book.thin(), 500);
        check.counts(book, 0, 0, 501);
        check.is("the next one's BASE", book.offer(1, 0, 0, 0), 501);
        check.known(book, 1, 1, 0, 1, 501, 501);
        check.counts(book, 1, 1, 502);
    }

    private static void fullLog(Check check) {
        check.sentence("All batches go, but those of a producer that the log knows: how many.");
        ProducerBook book = Books.fullByBatches();
        check.is("thin()", book.thin(), 1980);
        check.is("count(0)", book.count(0), 20);
        check.is("batch(0, 0)", book.batch(0, 0), 495);
        check.is("batch(19, 0)", book.batch(19, 0), 1999);
        check.refusesArgument("batch(20, 0)", () -> book.batch(20, 0));
        check.is("room again", book.offers(500, 3, 1, 500, 0), 500);
        ProducerBook none = new ProducerBook();
        for (int i = 0; i < 4; i++) {
            none.offers(500, -1, -1, -1, 0);
        }
        check.is("thin() of 2000 without producer", none.thin(), 2000);
        check.is("count(0)", none.count(0), 0);
    }

    private static void fullOfKnownOnes(Check check) {
        check.sentence("All batches go, but those of a producer that the log knows: how many.");
        ProducerBook book = new ProducerBook();
        for (int producer = 0; producer < 400; producer++) {
            book.offers(5, producer, 0, 0, 0);
        }
        check.is("thin()", book.thin(), 0);
        check.counts(book, 2000, 400, 2000);
        check.refusesState("no room", () -> book.offer(0, 0, 5, 0));
        check.is("batch(0, 5)", book.batch(0, 5), 1);
        check.is("batch(1999, 5)", book.batch(1999, 5), 1);
    }

    private static void knownStaysAsItWas(Check check) {
        check.sentence("All batches go, but those of a producer that the log knows: how many.");
        ProducerBook book = Books.with(9);
        check.is("thin()", book.thin(), 4);
        check.known(book, 1, 5, 1, 9, 8, 4);
        check.is("sent again, there", book.offer(1, 1, 4, 0), 4);
        check.is("sent again, gone", book.offer(1, 1, 3, 0), ProducerBook.GAP);
        check.is("fenced", book.offer(1, 0, 9, 0), ProducerBook.FENCED);
        check.is("the next one", book.offer(1, 1, 9, 0), 9);
        check.is("thin()", book.thin(), 1);
        book.drop(4);
        check.is("thin() of one", book.thin(), 0);
        check.bases(book, 9);
    }

    private static void endStays(Check check) {
        check.sentence("END, 0 at first, is the BASE of the next one, and grows by LAST and 1 with it.");
        ProducerBook book = Books.withEnd(1000000);
        check.is("thin()", book.thin(), 1000);
        check.counts(book, 0, 0, 1000000);
        check.refusesState("an empty log at its end", () -> book.offer(1, 0, 0, 0));
    }
}
