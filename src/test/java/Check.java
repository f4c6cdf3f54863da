/** Counts the calls of a test whose answer is not the one that is due. */
final class Check {
    interface Call {
        long answer();
    }

    private int wrong = 0;
    private int done = 0;

    void is(String call, long got, long due) {
        done++;
        if (got != due) {
            wrong++;
            System.out.println(call + " answered " + got + ", due is " + due);
        }
    }

    void refusesArgument(String call, Call made) {
        refuses(call, made, IllegalArgumentException.class);
    }

    void refusesState(String call, Call made) {
        refuses(call, made, IllegalStateException.class);
    }

    private void refuses(String call, Call made, Class<? extends RuntimeException> due) {
        done++;
        String got;
        try {
            got = "answered " + made.answer();
        } catch (RuntimeException e) {
            if (e.getClass() == due) {
                return;
            }
            got = "threw " + e;
        }
        wrong++;
        System.out.println(call + " " + got + ", due is " + due.getSimpleName());
    }

    /** A batch's numbers without its BASE: producer, epoch, sequence, LAST, whether known. */
    void batch(ProducerBook book, int k, long... due) {
        for (int i = 0; i < due.length; i++) {
            is("batch(" + k + ", " + (i + 1) + ")", book.batch(k, i + 1), due[i]);
        }
    }

    void bases(ProducerBook book, long... due) {
        is("count(0)", book.count(0), due.length);
        for (int k = 0; k < Math.min(due.length, book.count(0)); k++) {
            is("batch(" + k + ", 0)", book.batch(k, 0), due[k]);
        }
    }

    void end() {
        System.out.println(done + " answers looked at, " + wrong + " not as due");
        if (wrong != 0 || done == 0) {
            System.exit(1);
        }
    }
}
