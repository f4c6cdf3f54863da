/**
 * Batches that producers send to a log, some of them again: each is there once, in its producer's
 * order, and a producer that was replaced comes in no more; what goes from the log is not known
 * any longer.
 */
public final class ProducerBook {
    public static final int NONE = -1;
    public static final int FENCED = -6;
    public static final int GAP = -7;

    private static final long NO_PRODUCER = -1;
    private static final int MOST_LAST = 999;
    private static final int MOST_EPOCH = 32767;
    private static final int MOST_SENT = 500;
    private static final int MOST_BATCHES = 2000;
    private static final int MOST_END = 1000000;
    private static final int MOST_KNOWN = 5;
    private static final int SEQUENCE_MASK = 0x7fffffff;

    private final Log log;
    private final Known recalled;

    public ProducerBook() {
        log = new Log();
        recalled = new Known();
    }

    public int offer(long producer, int epoch, int sequence, int last)
            throws IllegalArgumentException, IllegalStateException {
        if (!isLegal(producer, epoch, sequence, last)) {
            throw new IllegalArgumentException("a number of the batch is out of its bounds");
        }
        log.recall(producer, recalled);
        int answer = send(producer, epoch, sequence, last);
        if (answer == NONE) {
            throw new IllegalStateException("the log has no room for the batch");
        }
        return answer;
    }

    public int offers(int n, long producer, int epoch, int sequence, int last)
            throws IllegalArgumentException, IllegalStateException {
        if (n < 1 || n > MOST_SENT || !isLegal(producer, epoch, sequence, last)) {
            throw new IllegalArgumentException("a number of the batches is out of its bounds");
        }
        if (!log.hasRoom(n, last)) {
            throw new IllegalStateException("the log has no room for all the batches");
        }
        log.recall(producer, recalled);
        int before = log.size;
        int next = sequence;
        for (int sent = 0; sent < n; sent++) {
            send(producer, epoch, next, last);
            // Without producer too: the document makes no exception, so -1 is followed by last.
            next = sequenceBehind(next, last);
        }
        return log.size - before;
    }

    public int drop(int n) throws IllegalArgumentException {
        if (n < 0 || n > MOST_BATCHES) {
            throw new IllegalArgumentException("n is not 0 .. 2000");
        }
        return log.removeFirst(n);
    }

    public int thin() {
        return log.removeUnknown();
    }

    public int known(long producer, int what) throws IllegalArgumentException {
        if (producer < 0 || what < 0 || what > 4) {
            throw new IllegalArgumentException("the producer is below 0, or what is not 0 .. 4");
        }
        log.recall(producer, recalled);
        if (what == 0) {
            return recalled.size;
        }
        if (recalled.size == 0) {
            return NONE;
        }
        int latest = recalled.latest();
        switch (what) {
            case 1:
                return log.epoch[latest];
            case 2:
                return sequenceBehind(log.sequence[latest], log.last[latest]);
            case 3:
                return log.base[latest];
            default:
                return log.base[recalled.first()];
        }
    }

    public long batch(int k, int what) throws IllegalArgumentException {
        if (k < 0 || k >= log.size || what < 0 || what > 5) {
            throw new IllegalArgumentException("there is no such batch, or what is not 0 .. 5");
        }
        switch (what) {
            case 0:
                return log.base[k];
            case 1:
                return log.producer[k];
            case 2:
                return log.epoch[k];
            case 3:
                return log.sequence[k];
            case 4:
                return log.last[k];
            default:
                return log.isKnown(k) ? 1 : 0;
        }
    }

    public int count(int what) throws IllegalArgumentException {
        switch (what) {
            case 0:
                return log.size;
            case 1:
                return log.countProducers();
            case 2:
                return log.end;
            default:
                throw new IllegalArgumentException("what is not 0 .. 2");
        }
    }

    private static boolean isLegal(long producer, int epoch, int sequence, int last) {
        if (last < 0 || last > MOST_LAST) {
            return false;
        }
        if (producer == NO_PRODUCER) {
            return epoch == -1 && sequence == -1;
        }
        return producer >= 0 && epoch >= 0 && epoch <= MOST_EPOCH && sequence >= 0;
    }

    // The mask is the remainder by 2^31 also where the sum of ints has wrapped round.
    private static int sequenceBehind(int sequence, int last) {
        return (sequence + last + 1) & SEQUENCE_MASK;
    }

    /** Needs the batch's producer recalled; NONE if the batch should come in and has no room. */
    private int send(long producer, int epoch, int sequence, int last) {
        int answer = answerOfKnown(epoch, sequence, last);
        if (answer != NONE) {
            return answer;
        }
        return log.append(recalled, producer, epoch, sequence, last);
    }

    /** What the recalled batches say to this one; NONE if they let it come into the log. */
    private int answerOfKnown(int epoch, int sequence, int last) {
        if (recalled.size == 0) {
            return NONE;
        }
        int latest = recalled.latest();
        int latestEpoch = log.epoch[latest];
        if (epoch < latestEpoch) {
            return FENCED;
        }
        int base = log.baseOfSame(recalled, epoch, sequence, last);
        if (base != NONE) {
            return base;
        }
        int due = epoch == latestEpoch ? sequenceBehind(log.sequence[latest], log.last[latest]) : 0;
        return sequence == due ? NONE : GAP;
    }

    /**
     * The places in the log of what it knows of one producer, the latest first. They hold until
     * batches go from the log: each call that needs them recalls them anew, into the same row.
     */
    private static final class Known {
        final int[] places = new int[MOST_KNOWN];
        int size = 0;

        int latest() {
            return places[0];
        }

        int first() {
            return size > 0 ? places[size - 1] : places[0];
        }

        void addOlder(int place) {
            if (size < MOST_KNOWN) {
                places[size] = place;
                size++;
            }
        }

        void addLatest(int place) {
            if (size < MOST_KNOWN) {
                size++;
            }
            for (int i = size - 1; i > 0; i--) {
                places[i] = places[i - 1];
            }
            places[0] = place;
        }
    }

    /** The batches in their order, a row for each of their numbers. */
    private static final class Log {
        final int[] base = new int[MOST_BATCHES];
        final long[] producer = new long[MOST_BATCHES];
        final int[] epoch = new int[MOST_BATCHES];
        final int[] sequence = new int[MOST_BATCHES];
        final int[] last = new int[MOST_BATCHES];
        // How many batches of the same producer are behind it; MOST_KNOWN for all that is not
        // known. What goes is never behind a batch of its producer that stays, so only a batch
        // that comes in changes these.
        final int[] newer = new int[MOST_BATCHES];
        int size = 0;
        int end = 0;

        boolean hasRoom(int n, int lastOfEach) {
            return size + n <= MOST_BATCHES && end + n * (lastOfEach + 1) <= MOST_END;
        }

        boolean isKnown(int k) {
            return newer[k] < MOST_KNOWN;
        }

        void recall(long ofProducer, Known known) {
            known.size = 0;
            for (int k = size - 1; k >= 0 && known.size < MOST_KNOWN; k--) {
                if (producer[k] == ofProducer && isKnown(k)) {
                    known.addOlder(k);
                }
            }
        }

        /** The BASE of the latest known batch with these numbers, or NONE. */
        int baseOfSame(Known known, int anEpoch, int aSequence, int aLast) {
            for (int i = 0; i < known.size; i++) {
                int k = known.places[i];
                if (epoch[k] == anEpoch && sequence[k] == aSequence && last[k] == aLast) {
                    return base[k];
                }
            }
            return NONE;
        }

        /** Takes the batch in, among its producer's known ones too: its BASE, NONE without room. */
        int append(Known known, long ofProducer, int anEpoch, int aSequence, int aLast) {
            if (!hasRoom(1, aLast)) {
                return NONE;
            }
            int k = size;
            base[k] = end;
            producer[k] = ofProducer;
            epoch[k] = anEpoch;
            sequence[k] = aSequence;
            last[k] = aLast;
            if (ofProducer == NO_PRODUCER) {
                newer[k] = MOST_KNOWN;
            } else {
                becomeLatest(known, k);
            }
            size++;
            end += aLast + 1;
            return base[k];
        }

        private void becomeLatest(Known known, int k) {
            for (int i = 0; i < known.size; i++) {
                newer[known.places[i]]++;
            }
            newer[k] = 0;
            known.addLatest(k);
        }

        int removeFirst(int n) {
            int gone = Math.min(n, size);
            if (gone > 0) {
                move(gone, 0, size - gone);
                size -= gone;
            }
            return gone;
        }

        int removeUnknown() {
            int kept = 0;
            for (int k = 0; k < size; k++) {
                if (isKnown(k)) {
                    if (kept < k) {
                        move(k, kept, 1);
                    }
                    kept++;
                }
            }
            int gone = size - kept;
            size = kept;
            return gone;
        }

        int countProducers() {
            int latest = 0;
            for (int k = 0; k < size; k++) {
                if (newer[k] == 0) {
                    latest++;
                }
            }
            return latest;
        }

        private void move(int from, int to, int length) {
            System.arraycopy(base, from, base, to, length);
            System.arraycopy(producer, from, producer, to, length);
            System.arraycopy(epoch, from, epoch, to, length);
            System.arraycopy(sequence, from, sequence, to, length);
            System.arraycopy(last, from, last, to, length);
            System.arraycopy(newer, from, newer, to, length);
        }
    }
}
