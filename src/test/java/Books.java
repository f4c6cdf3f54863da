/** Logs that several tests begin with. Few calls make each: an object is promised for 512. */
final class Books {
    private Books() {
    }

    /** Batches of a record each of producer 1 in epoch 1, from sequence 0 on. */
    static ProducerBook with(int batches) {
        ProducerBook book = new ProducerBook();
        for (int there = 0; there < batches; there += 500) {
            book.offers(Math.min(500, batches - there), 1, 1, there, 0);
        }
        return book;
    }

    /** Batches without producer, until END is this. */
    static ProducerBook withEnd(int end) {
        ProducerBook book = new ProducerBook();
        int thousands = end / 1000;
        for (int there = 0; there < thousands; there += 500) {
            book.offers(Math.min(500, thousands - there), -1, -1, -1, 999);
        }
        if (end % 1000 > 0) {
            book.offer(-1, -1, -1, end % 1000 - 1);
        }
        return book;
    }

    /** Seven of producer 1 in epoch 1, two without producer, one of producer 2 in epoch 3. */
    static ProducerBook mixed() {
        ProducerBook book = with(7);
        book.offers(2, -1, -1, -1, 1);
        book.offer(2, 3, Integer.MAX_VALUE, 4);
        return book;
    }

    /** 2000 batches, END 2000: 500 of each of the producers 0 to 3, in epoch 1 from sequence 0. */
    static ProducerBook fullByBatches() {
        ProducerBook book = new ProducerBook();
        for (int producer = 0; producer < 4; producer++) {
            book.offers(500, producer, 1, 0, 0);
        }
        return book;
    }

    /** 1000 batches, END 1000000: 500 of each of the producers 1 and 2, in epoch 1 from 0. */
    static ProducerBook fullByEnd() {
        ProducerBook book = new ProducerBook();
        book.offers(500, 1, 1, 0, 999);
        book.offers(500, 2, 1, 0, 999);
        return book;
    }

    /** What the calls that change nothing show of a log, of its middle too if it is short. */
    static String look(ProducerBook book) {
        StringBuilder seen = new StringBuilder();
        for (int what = 0; what <= 2; what++) {
            seen.append(book.count(what)).append(' ');
        }
        seen.append('\n');
        for (long producer = 0; producer <= 4; producer++) {
            for (int what = 0; what <= 4; what++) {
                seen.append(book.known(producer, what)).append(' ');
            }
            seen.append('\n');
        }
        int size = book.count(0);
        for (int k = 0; k < size; k = k == 19 ? Math.max(20, size - 20) : k + 1) {
            for (int what = 0; what <= 5; what++) {
                seen.append(book.batch(k, what)).append(' ');
            }
            seen.append('\n');
        }
        return seen.toString();
    }
}
