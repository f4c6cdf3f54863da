import java.util.ArrayList;
import java.util.HashSet;
import java.util.List;
import java.util.Set;

/** The document told again with lists, looking at the whole log each time: to compare with. */
final class PlainBook {
    private record Batch(long base, long producer, int epoch, long sequence, int last) {
        long next() {
            return Math.floorMod(sequence + last + 1, 1L << 31);
        }
    }

    private final List<Batch> log = new ArrayList<>();
    private int end = 0;

    private List<Batch> knownOf(long producer) {
        List<Batch> of = new ArrayList<>();
        for (Batch batch : log) {
            if (producer != -1 && batch.producer == producer) {
                of.add(batch);
            }
        }
        return of.subList(Math.max(0, of.size() - 5), of.size());
    }

    private static void must(boolean legal) {
        if (!legal) {
            throw new IllegalArgumentException();
        }
    }

    private static void mustBeLegal(long producer, int epoch, long sequence, int last) {
        must(last >= 0 && last <= 999 && producer >= -1);
        if (producer == -1) {
            must(epoch == -1 && sequence == -1);
        } else {
            must(epoch >= 0 && epoch <= 32767 && sequence >= 0);
        }
    }

    private void mustHaveRoom(int n, int last) {
        if (log.size() + n > 2000 || end + n * (last + 1) > 1000000) {
            throw new IllegalStateException();
        }
    }

    long offer(long producer, int epoch, int sequence, int last) {
        mustBeLegal(producer, epoch, sequence, last);
        return send(producer, epoch, sequence, last);
    }

    private long send(long producer, int epoch, long sequence, int last) {
        List<Batch> known = knownOf(producer);
        if (!known.isEmpty()) {
            Batch latest = known.get(known.size() - 1);
            if (epoch < latest.epoch) {
                return -6;
            }
            for (int i = known.size() - 1; i >= 0; i--) {
                Batch one = known.get(i);
                if (one.epoch == epoch && one.sequence == sequence && one.last == last) {
                    return one.base;
                }
            }
            if (sequence != (epoch == latest.epoch ? latest.next() : 0)) {
                return -7;
            }
        }
        mustHaveRoom(1, last);
        log.add(new Batch(end, producer, epoch, sequence, last));
        end += last + 1;
        return end - last - 1;
    }

    long offers(int n, long producer, int epoch, int sequence, int last) {
        mustBeLegal(producer, epoch, sequence, last);
        must(n >= 1 && n <= 500);
        mustHaveRoom(n, last);
        int before = log.size();
        long next = sequence;
        for (int i = 0; i < n; i++) {
            send(producer, epoch, next, last);
            next = Math.floorMod(next + last + 1, 1L << 31);
        }
        return log.size() - before;
    }

    long drop(int n) {
        must(n >= 0 && n <= 2000);
        int gone = Math.min(n, log.size());
        log.subList(0, gone).clear();
        return gone;
    }

    long thin() {
        Set<Batch> kept = new HashSet<>();
        for (Batch batch : log) {
            kept.addAll(knownOf(batch.producer));
        }
        int before = log.size();
        log.retainAll(kept);
        return before - log.size();
    }

    long known(long producer, int what) {
        must(producer >= 0 && what >= 0 && what <= 4);
        List<Batch> known = knownOf(producer);
        if (what == 0) {
            return known.size();
        }
        if (known.isEmpty()) {
            return -1;
        }
        Batch latest = known.get(known.size() - 1);
        long[] answers = {0, latest.epoch, latest.next(), latest.base, known.get(0).base};
        return answers[what];
    }

    long batch(int k, int what) {
        must(k >= 0 && k < log.size() && what >= 0 && what <= 5);
        Batch one = log.get(k);
        long isKnown = knownOf(one.producer).contains(one) ? 1 : 0;
        long[] answers = {one.base, one.producer, one.epoch, one.sequence, one.last, isKnown};
        return answers[what];
    }

    long count(int what) {
        must(what >= 0 && what <= 2);
        Set<Long> producers = new HashSet<>();
        for (Batch batch : log) {
            if (batch.producer != -1) {
                producers.add(batch.producer);
            }
        }
        long[] answers = {log.size(), producers.size(), end};
        return answers[what];
    }
}
