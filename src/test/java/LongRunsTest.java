/** All promises: long mixed runs, each call's answer against that of PlainBook. */
public final class LongRunsTest {
    private static final int RUNS = 600;
    private static final int CALLS = 512;
    private static final long[] PRODUCERS = {0, 1, 2, 3, 1L << 32, Long.MAX_VALUE};
    private static final int[] ODD = {Integer.MIN_VALUE, -2, -1, 6, 1000, 32768, Integer.MAX_VALUE};

    private final Check check = new Check();
    private ProducerBook book;
    private PlainBook plain;
    private long state = 1;

    public static void main(String[] args) {
        LongRunsTest test = new LongRunsTest();
        test.check.sentence("An object is used for at most 512 calls after it has been made");
        for (int run = 0; run < RUNS; run++) {
            test.run(run);
        }
        test.check.end();
    }

    /** A number from 0 up to bound less 1, the same ones in each run of the test. */
    private int draw(int bound) {
        state = state * 6364136223846793005L + 1442695040888963407L;
        return (int) ((state >>> 33) % bound);
    }

    private int oddAtTimes(int number) {
        return draw(60) == 0 ? ODD[draw(ODD.length)] : number;
    }

    private void run(int run) {
        book = new ProducerBook();
        plain = new PlainBook();
        for (int call = 0; call < CALLS; call++) {
            int kind = draw(20);
            if (kind < 9) {
                offerOne(run);
            } else if (kind < 12) {
                offerMany(run);
            } else if (kind < 14) {
                take(run);
            } else {
                look(run);
            }
        }
    }

    private long drawProducer(int run) {
        if (draw(15) == 0) {
            return draw(5) == 0 ? -2 : -1;
        }
        // Some runs have many producers, some but a few.
        return run % 3 == 0 ? draw(300) : PRODUCERS[draw(PRODUCERS.length)];
    }

    private int drawEpoch(long producer) {
        if (producer < 0) {
            return oddAtTimes(-1);
        }
        int epoch = (int) Math.max(0, plain.known(producer, 1));
        int step = draw(12);
        return oddAtTimes(step == 0 ? epoch + 1 : step == 1 ? epoch - 1 : epoch);
    }

    private int drawSequence(long producer) {
        if (producer < 0) {
            return oddAtTimes(-1);
        }
        if (plain.known(producer, 0) == 0) {
            return draw(3) == 0 ? Integer.MAX_VALUE - draw(20) : draw(10);
        }
        int step = draw(6);
        int next = (int) plain.known(producer, 2);
        return step == 0 ? 0 : oddAtTimes(step < 3 ? (next - draw(9)) & Integer.MAX_VALUE : next);
    }

    private int drawLast(int run) {
        int kind = run % 5;
        return oddAtTimes(kind == 0 ? 999 : kind == 1 ? draw(3) : 0);
    }

    private void offerOne(int run) {
        long producer = drawProducer(run);
        int epoch = drawEpoch(producer);
        int sequence = drawSequence(producer);
        int last = drawLast(run);
        same("run " + run + ": offer(" + producer + ", " + epoch + ", " + sequence + ", " + last + ")",
                () -> book.offer(producer, epoch, sequence, last),
                () -> plain.offer(producer, epoch, sequence, last));
    }

    private void offerMany(int run) {
        int n = oddAtTimes(draw(5) == 0 ? 500 - draw(100) : draw(12));
        long producer = drawProducer(run);
        int epoch = drawEpoch(producer);
        int sequence = drawSequence(producer);
        int last = drawLast(run);
        same("run " + run + ": offers(" + n + ", " + producer + ", " + epoch + ", " + sequence
                        + ", " + last + ")",
                () -> book.offers(n, producer, epoch, sequence, last),
                () -> plain.offers(n, producer, epoch, sequence, last));
    }

    private void take(int run) {
        // Some runs never thin, so that the log gets full.
        if (draw(8) == 0 && run % 2 == 0) {
            same("run " + run + ": thin()", () -> book.thin(), () -> plain.thin());
        } else {
            int n = oddAtTimes(draw(40) == 0 ? 2000 : draw(run % 4 == 0 ? 20 : 200));
            same("run " + run + ": drop(" + n + ")", () -> book.drop(n), () -> plain.drop(n));
        }
    }

    private void look(int run) {
        int what = oddAtTimes(draw(6));
        int kind = draw(5);
        if (kind < 3) {
            int k = oddAtTimes(draw((int) plain.count(0) + 2));
            same("run " + run + ": batch(" + k + ", " + what + ")",
                    () -> book.batch(k, what), () -> plain.batch(k, what));
        } else if (kind == 3) {
            long producer = drawProducer(run);
            same("run " + run + ": known(" + producer + ", " + what + ")",
                    () -> book.known(producer, what), () -> plain.known(producer, what));
        } else {
            same("run " + run + ": count(" + what + ")",
                    () -> book.count(what), () -> plain.count(what));
        }
    }

    private void same(String call, Check.Call got, Check.Call due) {
        long answer;
        try {
            answer = due.answer();
        } catch (IllegalArgumentException e) {
            check.refusesArgument(call, got);
            return;
        } catch (IllegalStateException e) {
            check.refusesState(call, got);
            return;
        }
        check.is(call, got.answer(), answer);
    }
}
