/** Promise 3: offers. */
public final class OffersTest {
    private static final int TOP = Integer.MAX_VALUE;
    private static final int LEAST = Integer.MIN_VALUE;

    public static void main(String[] args) {
        Check check = new Check();
        comeIn(check);
        someComeIn(check);
        noneComeIn(check);
        sequencesWrap(check);
        wrapIntoAGreaterEpoch(check);
        withoutProducer(check);
        numberOutOfBounds(check);
        lastOutOfBounds(check);
        numbersWithoutProducer(check);
        producerOutOfBounds(check);
        epochOutOfBounds(check);
        sequenceOutOfBounds(check);
        moreThan2000(check);
        endAbove(check);
        fullAlsoIfNotAllComeIn(check);
        nothingIsSent(check);
        argumentBeforeState(check);
        check.end();
    }

    private static void comeIn(Check check) {
        check.sentence("Sends n batches, one behind the other, of this producer and epoch");
        ProducerBook book = new ProducerBook();
        check.is("offers(3, 5, 2, 10, 4)", book.offers(3, 5, 2, 10, 4), 3);
        check.bases(book, 0, 5, 10);
        for (int k = 0; k < 3; k++) {
            check.batch(book, k, 5, 2, 10 + 5 * k, 4, 1);
        }
        check.known(book, 5, 3, 2, 25, 10, 0);
        check.is("500 of a greater epoch", book.offers(500, 5, 3, 0, 0), 500);
        check.known(book, 5, 5, 3, 500, 514, 510);
        check.is("batch(497, 5)", book.batch(497, 5), 0);
        check.is("batch(498, 5)", book.batch(498, 5), 1);
        check.counts(book, 503, 1, 515);
    }

    private static void someComeIn(Check check) {
        check.sentence("how many came into the log");
        ProducerBook book = Books.with(8);
        check.is("gaps, then known ones, then new ones", book.offers(10, 1, 1, 0, 0), 2);
        check.is("known ones, then a new one", book.offers(6, 1, 1, 5, 0), 1);
        check.is("with another last they meet at the next", book.offers(4, 1, 1, 7, 1), 2);
        check.bases(book, 0, 1, 2, 3, 4, 5, 6, 7, 8, 9, 10, 11, 13);
        check.known(book, 1, 5, 1, 15, 13, 8);
    }

    private static void noneComeIn(Check check) {
        check.sentence("how many came into the log");
        ProducerBook book = Books.with(8);
        check.is("fenced", book.offers(500, 1, 0, 8, 0), 0);
        check.is("a gap", book.offers(500, 1, 1, 9, 0), 0);
        check.is("the five known", book.offers(5, 1, 1, 3, 0), 0);
        check.is("a gap and the five known", book.offers(6, 1, 1, 2, 0), 0);
        check.is("a greater epoch not from 0", book.offers(500, 1, 2, 1, 0), 0);
        check.is("the log", Books.look(book), Books.look(Books.with(8)));
    }

    private static void sequencesWrap(Check check) {
        check.sentence("each with the next sequence (modulo 2^31) behind that of the one before it,"
                + " the first one with this one");
        ProducerBook book = new ProducerBook();
        check.is("over the edge", book.offers(3, 5, 0, TOP - 1, 2), 3);
        check.batch(book, 0, 5, 0, TOP - 1, 2, 1);
        check.batch(book, 1, 5, 0, 1, 2, 1);
        check.batch(book, 2, 5, 0, 4, 2, 1);
        check.is("from the edge to 0", book.offers(2, 6, 0, TOP, 0), 2);
        check.batch(book, 3, 6, 0, TOP, 0, 1);
        check.batch(book, 4, 6, 0, 0, 0, 1);
        check.is("from the edge by 1000", book.offers(2, 7, 0, TOP, 999), 2);
        check.batch(book, 6, 7, 0, 999, 999, 1);
        check.is("up to the edge", book.offers(2, 8, 0, TOP - 1, 0), 2);
        check.batch(book, 8, 8, 0, TOP, 0, 1);
        check.is("known(8, 2)", book.known(8, 2), 0);
    }

    private static void wrapIntoAGreaterEpoch(Check check) {
        check.sentence("each with the next sequence (modulo 2^31) behind that of the one before it,"
                + " the first one with this one");
        ProducerBook book = Books.with(1);
        check.is("two gaps, then 0 and 1", book.offers(4, 1, 2, TOP - 1, 0), 2);
        check.batch(book, 1, 1, 2, 0, 0, 1);
        check.batch(book, 2, 1, 2, 1, 0, 1);
        check.known(book, 1, 3, 2, 2, 2, 0);
    }

    // The sentence makes no exception for batches without producer: behind -1 comes last.
    private static void withoutProducer(Check check) {
        check.sentence("each with the next sequence (modulo 2^31) behind that of the one before it,"
                + " the first one with this one");
        ProducerBook book = new ProducerBook();
        check.is("three", book.offers(3, -1, -1, -1, 4), 3);
        check.is("the same", book.offers(3, -1, -1, -1, 4), 3);
        check.bases(book, 0, 5, 10, 15, 20, 25);
        check.batch(book, 0, -1, -1, -1, 4, 0);
        check.batch(book, 1, -1, -1, 4, 4, 0);
        check.batch(book, 2, -1, -1, 9, 4, 0);
        check.batch(book, 3, -1, -1, -1, 4, 0);
        check.counts(book, 6, 0, 30);
        check.is("500", book.offers(500, -1, -1, -1, 0), 500);
    }

    private static void numberOutOfBounds(Check check) {
        check.sentence("or n is not 1 .. 500");
        ProducerBook book = new ProducerBook();
        int[] wrong = {LEAST, -500, -1, 0, 501, 502, 2000, 65537, TOP};
        for (int n : wrong) {
            check.refusesArgument("n " + n, () -> book.offers(n, 1, 0, 0, 0));
            check.refusesArgument("no producer, n " + n, () -> book.offers(n, -1, -1, -1, 0));
        }
        check.counts(book, 0, 0, 0);
        check.is("1", book.offers(1, 1, 0, 0, 0), 1);
        check.is("500", book.offers(500, 1, 0, 1, 0), 500);
    }

    private static void lastOutOfBounds(Check check) {
        check.sentence("Illegal argument: as for offer()", "last is not 0 .. 999");
        ProducerBook book = new ProducerBook();
        int[] wrong = {LEAST, -1, 1000, TOP};
        for (int last : wrong) {
            check.refusesArgument("last " + last, () -> book.offers(1, 1, 0, 0, last));
            check.refusesArgument("500, last " + last, () -> book.offers(500, 1, 0, 0, last));
            check.refusesArgument("no producer, " + last, () -> book.offers(2, -1, -1, -1, last));
        }
        check.counts(book, 0, 0, 0);
        check.is("0", book.offers(2, 1, 0, 0, 0), 2);
        check.is("999", book.offers(2, 2, 0, 0, 999), 2);
    }

    private static void numbersWithoutProducer(Check check) {
        check.sentence("Illegal argument: as for offer()",
                "without producer (-1): epoch or sequence is not -1");
        ProducerBook book = new ProducerBook();
        int[] wrong = {LEAST, -2, 0, 1, TOP};
        for (int number : wrong) {
            check.refusesArgument("epoch " + number, () -> book.offers(2, -1, number, -1, 0));
            check.refusesArgument("sequence " + number, () -> book.offers(2, -1, -1, number, 0));
        }
        check.counts(book, 0, 0, 0);
        check.is("both -1", book.offers(2, -1, -1, -1, 0), 2);
    }

    private static void producerOutOfBounds(Check check) {
        check.sentence("Illegal argument: as for offer()", "the producer is below -1");
        ProducerBook book = new ProducerBook();
        long[] wrong = {-2, -1 - (1L << 32), Long.MIN_VALUE};
        for (long producer : wrong) {
            check.refusesArgument("producer " + producer, () -> book.offers(1, producer, 0, 0, 0));
            check.refusesArgument("all -1", () -> book.offers(1, producer, -1, -1, 0));
        }
        check.counts(book, 0, 0, 0);
        check.is("0", book.offers(2, 0, 0, 0, 0), 2);
        check.is("the greatest", book.offers(2, Long.MAX_VALUE, 0, 0, 0), 2);
    }

    private static void epochOutOfBounds(Check check) {
        check.sentence("Illegal argument: as for offer()", "epoch not 0 .. 32767");
        ProducerBook book = new ProducerBook();
        int[] wrong = {LEAST, -1, 32768, TOP};
        for (int epoch : wrong) {
            check.refusesArgument("epoch " + epoch, () -> book.offers(2, 1, epoch, 0, 0));
        }
        check.counts(book, 0, 0, 0);
        check.is("0", book.offers(2, 1, 0, 0, 0), 2);
        check.is("32767", book.offers(2, 1, 32767, 0, 0), 2);
    }

    private static void sequenceOutOfBounds(Check check) {
        check.sentence("Illegal argument: as for offer()", "sequence below 0");
        ProducerBook book = new ProducerBook();
        int[] wrong = {LEAST, -2, -1};
        for (int sequence : wrong) {
            check.refusesArgument("sequence " + sequence, () -> book.offers(2, 1, 0, sequence, 0));
        }
        check.counts(book, 0, 0, 0);
        check.is("0", book.offers(2, 1, 0, 0, 0), 2);
        check.is("the greatest", book.offers(2, 2, 0, TOP, 0), 2);
    }

    private static void moreThan2000(Check check) {
        check.sentence("illegal state: as for offer(), if all should come into the log",
                "there are 2000");
        ProducerBook ten = Books.with(1990);
        check.refusesState("11 where 10 fit", () -> ten.offers(11, 1, 1, 1990, 0));
        check.refusesState("500 where 10 fit", () -> ten.offers(500, 7, 0, 0, 0));
        check.is("10 where 10 fit", ten.offers(10, 1, 1, 1990, 0), 10);
        check.counts(ten, 2000, 1, 2000);
        check.refusesState("1 where none fits", () -> ten.offers(1, 1, 1, 2000, 0));
        check.refusesState("without producer", () -> ten.offers(1, -1, -1, -1, 0));
        check.refusesState("500 where 499 fit", () -> Books.with(1501).offers(500, 7, 0, 0, 0));
        check.is("500 where 500 fit", Books.with(1500).offers(500, 7, 0, 0, 0), 500);
        ten.drop(3);
        check.refusesState("4 where 3 went", () -> ten.offers(4, 1, 1, 2000, 0));
        check.is("3 where 3 went", ten.offers(3, 1, 1, 2000, 0), 3);
    }

    private static void endAbove(Check check) {
        check.sentence("illegal state: as for offer(), if all should come into the log",
                "END would be above 1000000");
        ProducerBook ten = Books.withEnd(990000);
        check.refusesState("11 where 10 fit", () -> ten.offers(11, 1, 1, 0, 999));
        check.refusesState("to 1000001", () -> ten.offers(73, 1, 1, 0, 136));
        check.refusesState("to 1490000", () -> ten.offers(500, 1, 1, 0, 999));
        check.is("10 where 10 fit", ten.offers(10, 1, 1, 0, 999), 10);
        check.is("count(2)", ten.count(2), 1000000);
        check.refusesState("1 where none fits", () -> ten.offers(1, 1, 1, 10000, 0));
        check.refusesState("without producer", () -> ten.offers(1, -1, -1, -1, 0));
        ten.drop(2000);
        check.refusesState("END does not go back", () -> ten.offers(1, 1, 1, 0, 0));
        check.is("500 to 1000000", Books.withEnd(500000).offers(500, 1, 0, 0, 999), 500);
        check.refusesState("500 to 1000001",
                () -> Books.withEnd(500001).offers(500, 1, 0, 0, 999));
    }

    private static void fullAlsoIfNotAllComeIn(Check check) {
        check.sentence("illegal state: as for offer(), if all should come into the log");
        ProducerBook batches = Books.with(1990);
        check.refusesState("6 new ones", () -> batches.offers(11, 1, 1, 1985, 0));
        check.refusesState("11 fenced", () -> batches.offers(11, 1, 0, 0, 0));
        check.refusesState("11 gaps", () -> batches.offers(11, 1, 1, 0, 0));
        check.is("10 gaps, which would fit", batches.offers(10, 1, 1, 0, 0), 0);
        check.refusesState("a known one in a full log",
                () -> Books.fullByBatches().offers(1, 3, 1, 499, 0));
        ProducerBook end = Books.fullByEnd();
        check.refusesState("a known one at 1000000", () -> end.offers(1, 2, 1, 499000, 999));
        check.refusesState("fenced at 1000000", () -> end.offers(1, 2, 0, 0, 0));
        check.refusesState("a gap at 1000000", () -> end.offers(1, 2, 1, 1, 0));
    }

    private static void nothingIsSent(Check check) {
        check.sentence("(nothing is sent then)");
        ProducerBook batches = Books.with(1990);
        check.refusesState("11 where 10 fit", () -> batches.offers(11, 1, 1, 1990, 0));
        check.is("the log", Books.look(batches), Books.look(Books.with(1990)));
        ProducerBook end = Books.withEnd(990000);
        check.refusesState("11 where 10 fit", () -> end.offers(11, 1, 1, 0, 999));
        check.is("the log", Books.look(end), Books.look(Books.withEnd(990000)));
    }

    private static void argumentBeforeState(Check check) {
        check.sentence("Of several exceptions the one named first is thrown");
        ProducerBook[] full = {Books.fullByBatches(), Books.fullByEnd()};
        for (ProducerBook book : full) {
            check.refusesState("but for the room it is legal", () -> book.offers(1, 9, 0, 0, 0));
            check.refusesArgument("n 0", () -> book.offers(0, 9, 0, 0, 0));
            check.refusesArgument("n 501", () -> book.offers(501, 9, 0, 0, 0));
            check.refusesArgument("last 1000", () -> book.offers(1, 9, 0, 0, 1000));
            check.refusesArgument("last -1", () -> book.offers(1, 9, 0, 0, -1));
            check.refusesArgument("no producer, epoch 0", () -> book.offers(1, -1, 0, -1, 0));
            check.refusesArgument("no producer, sequence 0", () -> book.offers(1, -1, -1, 0, 0));
            check.refusesArgument("producer -2", () -> book.offers(1, -2, 0, 0, 0));
            check.refusesArgument("epoch -1", () -> book.offers(1, 9, -1, 0, 0));
            check.refusesArgument("epoch 32768", () -> book.offers(1, 9, 32768, 0, 0));
            check.refusesArgument("sequence -1", () -> book.offers(1, 9, 0, -1, 0));
        }
    }
}
