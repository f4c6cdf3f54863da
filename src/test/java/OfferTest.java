/** Promise 2: offer. */
public final class OfferTest {
    private static final int FENCED = ProducerBook.FENCED;
    private static final int GAP = ProducerBook.GAP;
    private static final int TOP = Integer.MAX_VALUE;
    private static final int LEAST = Integer.MIN_VALUE;

    public static void main(String[] args) {
        Check check = new Check();
        comesIn(check);
        unknownProducer(check);
        fenced(check);
        fencedNoMore(check);
        sameAsAKnownOne(check);
        sameAsTheFifth(check);
        sameButForOneNumber(check);
        sameChangesNothing(check);
        gapOfTheSameEpoch(check);
        gapOfAGreaterEpoch(check);
        gapAcrossTheWrap(check);
        withoutProducer(check);
        lastOutOfBounds(check);
        numbersWithoutProducer(check);
        producerOutOfBounds(check);
        epochOutOfBounds(check);
        sequenceOutOfBounds(check);
        illegalBeforeAnyAnswer(check);
        there2000(check);
        endAbove(check);
        fullBothWays(check);
        fullAnswersWhatDoesNotComeIn(check);
        argumentBeforeState(check);
        check.end();
    }

    private static void comesIn(Check check) {
        check.sentence("Otherwise it comes into the log: its BASE.");
        ProducerBook book = new ProducerBook();
        check.is("an unknown producer", book.offer(4, 3, 77, 2), 0);
        check.is("the next one", book.offer(4, 3, 80, 0), 3);
        check.is("another producer", book.offer(Long.MAX_VALUE, 0, 0, 999), 4);
        check.is("producers differ above 32 bits", book.offer((1L << 32) + 4, 0, 9, 0), 1004);
        check.is("0 of a greater epoch", book.offer(4, 4, 0, 0), 1005);
        check.bases(book, 0, 3, 4, 1004, 1005);
        check.batch(book, 0, 4, 3, 77, 2, 1);
        check.batch(book, 1, 4, 3, 80, 0, 1);
        check.batch(book, 2, Long.MAX_VALUE, 0, 0, 999, 1);
        check.batch(book, 3, (1L << 32) + 4, 0, 9, 0, 1);
        check.batch(book, 4, 4, 4, 0, 0, 1);
    }

    private static void unknownProducer(Check check) {
        check.sentence("If the log knows its producer");
        ProducerBook book = new ProducerBook();
        check.is("never seen, any epoch and sequence", book.offer(1, 32767, TOP, 0), 0);
        check.is("never seen, the least ones", book.offer(2, 0, 0, 0), 1);
        book.drop(1);
        check.is("all of it went", book.offer(1, 0, 5, 0), 2);
        check.is("then it is known again", book.offer(1, 0, 5, 0), 2);
        check.is("and is held to its order", book.offer(1, 0, 7, 0), GAP);
        check.is("the other is known still", book.offer(2, 0, 0, 0), 1);
    }

    private static void fenced(Check check) {
        check.sentence("FENCED when its epoch is less than that of L");
        ProducerBook book = new ProducerBook();
        book.offer(1, 4, 0, 0);
        check.is("one less, the next sequence", book.offer(1, 3, 1, 0), FENCED);
        check.is("one less, 0", book.offer(1, 3, 0, 0), FENCED);
        check.is("the least", book.offer(1, 0, 1, 0), FENCED);
        check.is("the same is not less", book.offer(1, 4, 1, 0), 1);
        check.is("a greater one from 0", book.offer(1, 6, 0, 1), 2);
        check.is("a known batch of the old epoch", book.offer(1, 4, 0, 0), FENCED);
        check.is("the old epoch's next one", book.offer(1, 4, 2, 0), FENCED);
        check.is("between the two", book.offer(1, 5, 0, 0), FENCED);
        check.is("another producer is not fenced", book.offer(2, 0, 0, 0), 4);
        check.is("the new epoch goes on", book.offer(1, 6, 2, 0), 5);
        check.is("the greatest epoch", book.offer(1, 32767, 0, 0), 6);
        check.is("one less than that", book.offer(1, 32766, 0, 0), FENCED);
        check.bases(book, 0, 1, 2, 4, 5, 6);
    }

    private static void fencedNoMore(Check check) {
        check.sentence("what goes from the log is not known any longer");
        ProducerBook book = Books.with(1);
        book.offer(1, 2, 0, 0);
        book.drop(1);
        check.is("L is there", book.offer(1, 1, 1, 0), FENCED);
        book.drop(1);
        check.is("L went", book.offer(1, 0, 9, 0), 2);
    }

    private static void sameAsAKnownOne(Check check) {
        check.sentence("if one of the known batches has the same epoch, sequence and last:"
                + " the BASE of the latest of these");
        ProducerBook book = new ProducerBook();
        book.offer(1, 2, 7, 3);
        book.offer(1, 2, 11, 0);
        book.offer(1, 3, 0, 999);
        check.is("of an epoch below L's", book.offer(1, 2, 11, 0), FENCED);
        check.is("L", book.offer(1, 3, 0, 999), 5);
        book.offer(1, 3, 1000, 0);
        check.is("0 of the epoch, not L", book.offer(1, 3, 0, 999), 5);
        check.is("L", book.offer(1, 3, 1000, 0), 1005);
        check.is("L twice", book.offer(1, 3, 1000, 0), 1005);
        check.is("another producer's numbers", book.offer(2, 3, 1000, 0), 1006);
    }

    // Two known batches never have the same three numbers: within an epoch the sequence grows by
    // 1000 at most with each, and five are known. So there is one to answer, or none.
    private static void sameAsTheFifth(Check check) {
        check.sentence("if one of the known batches has the same epoch, sequence and last:"
                + " the BASE of the latest of these");
        ProducerBook book = Books.with(6);
        for (int i = 1; i < 6; i++) {
            check.is("known " + i, book.offer(1, 1, i, 0), i);
        }
        check.is("the sixth latest", book.offer(1, 1, 0, 0), GAP);
        check.is("the next one", book.offer(1, 1, 6, 0), 6);
        check.is("what was the fifth latest", book.offer(1, 1, 1, 0), GAP);
        check.is("what is the fifth latest", book.offer(1, 1, 2, 0), 2);
        book.drop(3);
        check.is("the fifth latest went", book.offer(1, 1, 2, 0), GAP);
        check.is("the fourth latest", book.offer(1, 1, 3, 0), 3);
    }

    private static void sameButForOneNumber(Check check) {
        check.sentence("has the same epoch, sequence and last");
        ProducerBook book = new ProducerBook();
        book.offer(1, 2, 10, 4);
        check.is("another epoch", book.offer(1, 3, 10, 4), GAP);
        check.is("another sequence", book.offer(1, 2, 11, 4), GAP);
        check.is("a lesser last", book.offer(1, 2, 10, 3), GAP);
        check.is("a greater last", book.offer(1, 2, 10, 5), GAP);
        check.is("the same end", book.offer(1, 2, 14, 0), GAP);
        check.bases(book, 0);
    }

    private static void sameChangesNothing(Check check) {
        check.sentence("the BASE of the latest of these, and nothing changes");
        ProducerBook book = Books.mixed();
        check.is("the fifth latest", book.offer(1, 1, 2, 0), 2);
        check.is("L", book.offer(1, 1, 6, 0), 6);
        check.is("of another", book.offer(2, 3, TOP, 4), 11);
        check.is("the log", Books.look(book), Books.look(Books.mixed()));
        check.is("the next one", book.offer(1, 1, 7, 0), 16);
    }

    private static void gapOfTheSameEpoch(Check check) {
        check.sentence("GAP when its sequence is not the next one (of the same epoch as L)");
        ProducerBook book = new ProducerBook();
        book.offer(1, 0, 10, 4);
        check.is("one too far", book.offer(1, 0, 16, 0), GAP);
        check.is("one too near", book.offer(1, 0, 14, 0), GAP);
        check.is("0", book.offer(1, 0, 0, 0), GAP);
        check.is("the greatest", book.offer(1, 0, TOP, 0), GAP);
        check.bases(book, 0);
        check.is("the next one", book.offer(1, 0, 15, 0), 5);
        check.is("the log", book.count(0), 2);
    }

    private static void gapOfAGreaterEpoch(Check check) {
        check.sentence("or not 0 (of a greater one)");
        ProducerBook book = new ProducerBook();
        book.offer(1, 0, 10, 4);
        check.is("1", book.offer(1, 1, 1, 0), GAP);
        check.is("the old epoch's next one", book.offer(1, 1, 15, 0), GAP);
        check.is("the greatest", book.offer(1, 32767, TOP, 0), GAP);
        check.bases(book, 0);
        check.is("it fenced nothing", book.offer(1, 0, 15, 0), 5);
        check.is("0 of the next epoch", book.offer(1, 1, 0, 0), 6);
        check.is("0 of the greatest epoch", book.offer(1, 32767, 0, 0), 7);
    }

    private static void gapAcrossTheWrap(Check check) {
        check.sentence("THE NEXT SEQUENCE is that of L, LAST of L and 1, modulo 2^31.");
        ProducerBook book = new ProducerBook();
        check.is("the greatest sequence", book.offer(1, 0, TOP, 0), 0);
        check.is("1 is too far", book.offer(1, 0, 1, 0), GAP);
        check.is("0 is next", book.offer(1, 0, 0, 0), 1);
        check.is("the greatest again", book.offer(1, 0, TOP, 0), 0);
        check.is("over the edge within a batch", book.offer(2, 0, TOP - 3, 9), 2);
        check.is("5 is too near", book.offer(2, 0, 5, 0), GAP);
        check.is("7 is too far", book.offer(2, 0, 7, 0), GAP);
        check.is("6 is next", book.offer(2, 0, 6, 0), 12);
        check.is("up to the edge", book.offer(3, 0, TOP - 999, 998), 13);
        check.is("0 is too far", book.offer(3, 0, 0, 0), GAP);
        check.is("the greatest is next", book.offer(3, 0, TOP, 0), 1012);
    }

    private static void withoutProducer(Check check) {
        check.sentence("a PRODUCER (-1 for none)");
        ProducerBook book = new ProducerBook();
        for (int i = 0; i < 7; i++) {
            check.is("the same is another one", book.offer(-1, -1, -1, 3), 4 * i);
        }
        check.batch(book, 0, -1, -1, -1, 3, 0);
        check.batch(book, 6, -1, -1, -1, 3, 0);
        check.counts(book, 7, 0, 28);
    }

    private static void lastOutOfBounds(Check check) {
        check.sentence("Illegal argument: last is not 0 .. 999");
        ProducerBook book = new ProducerBook();
        int[] wrong = {LEAST, -1000, -2, -1, 1000, 1001, TOP - 1, TOP};
        for (int last : wrong) {
            check.refusesArgument("last " + last, () -> book.offer(1, 0, 0, last));
            check.refusesArgument("no producer, last " + last, () -> book.offer(-1, -1, -1, last));
        }
        check.is("0", book.offer(1, 0, 0, 0), 0);
        check.is("999", book.offer(2, 0, 0, 999), 1);
        check.is("no producer, 0", book.offer(-1, -1, -1, 0), 1001);
        check.is("no producer, 999", book.offer(-1, -1, -1, 999), 1002);
        check.is("count(2)", book.count(2), 2002);
    }

    private static void numbersWithoutProducer(Check check) {
        check.sentence("without producer (-1): epoch or sequence is not -1");
        ProducerBook book = new ProducerBook();
        int[] wrong = {LEAST, -2, 0, 1, 32767, TOP};
        for (int number : wrong) {
            check.refusesArgument("epoch " + number, () -> book.offer(-1, number, -1, 0));
            check.refusesArgument("sequence " + number, () -> book.offer(-1, -1, number, 0));
            check.refusesArgument("both " + number, () -> book.offer(-1, number, number, 0));
        }
        check.is("count(0)", book.count(0), 0);
        check.is("both -1", book.offer(-1, -1, -1, 0), 0);
    }

    private static void producerOutOfBounds(Check check) {
        check.sentence("else: the producer is below -1");
        ProducerBook book = new ProducerBook();
        long[] wrong = {-2, -3, Integer.MIN_VALUE, -(1L << 32), -1 - (1L << 32), Long.MIN_VALUE};
        for (long producer : wrong) {
            check.refusesArgument("producer " + producer, () -> book.offer(producer, 0, 0, 0));
            check.refusesArgument("all -1, " + producer, () -> book.offer(producer, -1, -1, 0));
        }
        check.is("count(0)", book.count(0), 0);
        check.is("-1", book.offer(-1, -1, -1, 0), 0);
        check.is("0", book.offer(0, 0, 0, 0), 1);
        check.is("the greatest", book.offer(Long.MAX_VALUE, 0, 0, 0), 2);
    }

    private static void epochOutOfBounds(Check check) {
        check.sentence("epoch not 0 .. 32767");
        ProducerBook book = new ProducerBook();
        int[] wrong = {LEAST, -32768, -2, -1, 32768, 65536, TOP};
        for (int epoch : wrong) {
            check.refusesArgument("epoch " + epoch, () -> book.offer(1, epoch, 0, 0));
        }
        check.is("count(0)", book.count(0), 0);
        check.is("0", book.offer(1, 0, 0, 0), 0);
        check.is("32767", book.offer(1, 32767, 0, 0), 1);
    }

    private static void sequenceOutOfBounds(Check check) {
        check.sentence("sequence below 0");
        ProducerBook book = new ProducerBook();
        int[] wrong = {LEAST, LEAST + 1, -1000, -2, -1};
        for (int sequence : wrong) {
            check.refusesArgument("sequence " + sequence, () -> book.offer(1, 0, sequence, 0));
        }
        check.is("count(0)", book.count(0), 0);
        check.is("0", book.offer(1, 0, 0, 0), 0);
        check.is("the greatest", book.offer(2, 0, TOP, 0), 1);
    }

    private static void illegalBeforeAnyAnswer(Check check) {
        check.sentence("In all calls illegal argument: a number is out of its bounds");
        ProducerBook book = Books.mixed();
        check.refusesArgument("else fenced", () -> book.offer(1, 0, 0, 1000));
        check.refusesArgument("else fenced", () -> book.offer(1, -1, 7, 0));
        check.refusesArgument("else a gap", () -> book.offer(1, 1, 99, -1));
        check.refusesArgument("else a gap", () -> book.offer(1, 1, -1, 0));
        check.refusesArgument("else a gap", () -> book.offer(1, 32768, 1, 0));
        check.refusesArgument("the next one in bits", () -> book.offer(2, 3, LEAST + 4, 0));
    }

    private static void there2000(Check check) {
        check.sentence("illegal state: there are 2000");
        ProducerBook book = Books.with(1999);
        check.is("the 2000th", book.offer(1, 1, 1999, 0), 1999);
        check.refusesState("the 2001st", () -> book.offer(1, 1, 2000, 0));
        check.refusesState("of an unknown producer", () -> book.offer(2, 0, 0, 0));
        check.refusesState("of a greater epoch", () -> book.offer(1, 2, 0, 0));
        check.refusesState("without producer", () -> book.offer(-1, -1, -1, 0));
        check.counts(book, 2000, 1, 2000);
        check.known(book, 1, 5, 1, 2000, 1999, 1995);
        book.drop(1);
        check.is("room for one", book.offer(1, 1, 2000, 0), 2000);
        check.batch(book, 1999, 1, 1, 2000, 0, 1);
        check.refusesState("and no more", () -> book.offer(1, 1, 2001, 0));
        check.is("thin()", book.thin(), 1995);
        check.is("room behind thin", book.offer(1, 1, 2001, 0), 2001);
    }

    private static void endAbove(Check check) {
        check.sentence("or END would be above 1000000");
        ProducerBook book = Books.withEnd(999000);
        check.refusesState("from 999001 to 1000001",
                () -> Books.withEnd(999001).offer(1, 1, 0, 999));
        check.is("to 999999", book.offer(1, 1, 0, 998), 999000);
        check.refusesState("to 1000001", () -> book.offer(1, 1, 999, 1));
        check.refusesState("to 1000999", () -> book.offer(2, 0, 0, 999));
        check.is("count(2)", book.count(2), 999999);
        check.is("to 1000000", book.offer(1, 1, 999, 0), 999999);
        check.is("count(2)", book.count(2), 1000000);
        check.refusesState("one more", () -> book.offer(1, 1, 1000, 0));
        check.refusesState("without producer", () -> book.offer(-1, -1, -1, 0));
        book.drop(2000);
        check.refusesState("END does not go back", () -> book.offer(2, 0, 0, 0));
        check.is("from 999000 to 1000000", Books.withEnd(999000).offer(1, 1, 0, 999), 999000);
    }

    private static void fullBothWays(Check check) {
        check.sentence("illegal state: there are 2000, or END would be above 1000000");
        ProducerBook book = new ProducerBook();
        for (int producer = 0; producer < 4; producer++) {
            check.is("offers", book.offers(500, producer, 0, 0, 499), 500);
        }
        check.counts(book, 2000, 4, 1000000);
        check.refusesState("one more", () -> book.offer(0, 0, 250000, 0));
        check.is("a known one", book.offer(3, 0, 249500, 499), 999500);
        book.drop(2000);
        check.refusesState("room for batches, none behind END", () -> book.offer(0, 0, 0, 0));
    }

    private static void fullAnswersWhatDoesNotComeIn(Check check) {
        check.sentence("the BASE of the latest of these, and nothing changes; else GAP");
        ProducerBook batches = Books.fullByBatches();
        check.is("2000: a known one", batches.offer(3, 1, 495, 0), 1995);
        check.is("2000: a gap", batches.offer(3, 1, 501, 0), GAP);
        check.is("2000: fenced", batches.offer(3, 0, 500, 0), FENCED);
        check.counts(batches, 2000, 4, 2000);
        ProducerBook end = Books.fullByEnd();
        check.is("END: a known one", end.offer(1, 1, 499000, 999), 499000);
        check.is("END: a gap", end.offer(1, 1, 0, 0), GAP);
        check.is("END: fenced", end.offer(1, 0, 0, 999), FENCED);
        check.counts(end, 1000, 2, 1000000);
    }

    private static void argumentBeforeState(Check check) {
        check.sentence("Of several exceptions the one named first is thrown");
        ProducerBook[] full = {Books.fullByBatches(), Books.fullByEnd()};
        for (ProducerBook book : full) {
            check.refusesState("but for the room it is legal", () -> book.offer(9, 0, 0, 0));
            check.refusesArgument("last 1000", () -> book.offer(9, 0, 0, 1000));
            check.refusesArgument("last -1", () -> book.offer(9, 0, 0, -1));
            check.refusesArgument("no producer, epoch 0", () -> book.offer(-1, 0, -1, 0));
            check.refusesArgument("no producer, sequence 0", () -> book.offer(-1, -1, 0, 0));
            check.refusesArgument("producer -2", () -> book.offer(-2, 0, 0, 0));
            check.refusesArgument("epoch -1", () -> book.offer(9, -1, 0, 0));
            check.refusesArgument("epoch 32768", () -> book.offer(9, 32768, 0, 0));
            check.refusesArgument("sequence -1", () -> book.offer(9, 0, -1, 0));
        }
    }
}
