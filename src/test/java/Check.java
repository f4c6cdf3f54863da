/** Counts the answers that are not as due, and tells which sentence of the document they break. */
final class Check {
    interface Call {
        long answer();
    }

    private String sentence = "";
    private int wrong = 0;
    private int done = 0;

    /** The document's own words that the answers from here on hold, of one place or of two. */
    void sentence(String... words) {
        sentence = String.join(" .. ", words);
    }

    void is(String call, long got, long due) {
        done++;
        if (got != due) {
            tell(call + " answered " + got + ", due is " + due);
        }
    }

    void is(String what, String got, String due) {
        done++;
        if (!got.equals(due)) {
            tell(what + " is\n" + got + "due is\n" + due);
        }
    }

    void refusesArgument(String call, Call made) {
        refuses(call, made, IllegalArgumentException.class);
    }

    void refusesState(String call, Call made) {
        refuses(call, made, IllegalStateException.class);
    }

    private void refuses(String call, Call made, Class<? extends RuntimeException> due) {
        done++;
        String got;
        try {
            got = "answered " + made.answer();
        } catch (RuntimeException e) {
            if (e.getClass() == due) {
                return;
            }
            got = "threw " + e;
        }
        tell(call + " " + got + ", due is " + due.getSimpleName());
    }

    /** A batch's numbers without its BASE: producer, epoch, sequence, LAST, whether known. */
    void batch(ProducerBook book, int k, long... due) {
        for (int i = 0; i < due.length; i++) {
            is("batch(" + k + ", " + (i + 1) + ")", book.batch(k, i + 1), due[i]);
        }
    }

    /** The log's batches by their BASEs, and that there are no more. */
    void bases(ProducerBook book, long... due) {
        int count = book.count(0);
        is("count(0)", count, due.length);
        for (int k = 0; k < Math.min(due.length, count); k++) {
            is("batch(" + k + ", 0)", book.batch(k, 0), due[k]);
        }
    }

    /** What is known of a producer: how many, epoch, next sequence, BASE of L, BASE of the first. */
    void known(ProducerBook book, long producer, long... due) {
        for (int what = 0; what < due.length; what++) {
            is("known(" + producer + ", " + what + ")", book.known(producer, what), due[what]);
        }
    }

    /** Batches, known producers, END. */
    void counts(ProducerBook book, long... due) {
        for (int what = 0; what < due.length; what++) {
            is("count(" + what + ")", book.count(what), due[what]);
        }
    }

    private void tell(String text) {
        wrong++;
        System.out.println("\"" + sentence + "\": " + text);
    }

    void end() {
        System.out.println(done + " answers looked at, " + wrong + " not as due");
        if (wrong != 0 || done == 0) {
            System.exit(1);
        }
    }
}
