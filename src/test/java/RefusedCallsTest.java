import java.util.ArrayList;
import java.util.List;
import java.util.function.Supplier;

/** Terms: "a call that throws changes nothing", each call that can throw, in logs of each kind. */
public final class RefusedCallsTest {
    private interface BookCall {
        long on(ProducerBook book);
    }

    private record Named(String name, BookCall call) {
    }

    private static final int LEAST = Integer.MIN_VALUE;
    private static final int TOP = Integer.MAX_VALUE;

    public static void main(String[] args) {
        Check check = new Check();
        check.sentence("a call that throws changes nothing");
        List<Supplier<ProducerBook>> kinds = List.of(ProducerBook::new, () -> Books.with(1),
                Books::mixed, Books::fullByBatches, Books::fullByEnd);
        for (Supplier<ProducerBook> kind : kinds) {
            for (Named one : illegalArguments()) {
                ProducerBook book = kind.get();
                check.refusesArgument(one.name, () -> one.call.on(book));
                isAsBefore(check, one.name, book, kind);
            }
        }
        for (Named one : withoutRoom()) {
            ProducerBook batches = Books.fullByBatches();
            check.refusesState(one.name, () -> one.call.on(batches));
            isAsBefore(check, one.name, batches, Books::fullByBatches);
            ProducerBook end = Books.fullByEnd();
            check.refusesState(one.name, () -> one.call.on(end));
            isAsBefore(check, one.name, end, Books::fullByEnd);
        }
        check.end();
    }

    // A new object that was made the same way shows what was there before: a look at the same
    // object twice would take more of its 512 calls.
    private static void isAsBefore(Check check, String call, ProducerBook book,
            Supplier<ProducerBook> kind) {
        ProducerBook before = kind.get();
        check.is("behind " + call + " the log", Books.look(book), Books.look(before));
        check.is("behind " + call + " thin()", book.thin(), before.thin());
        check.is("behind " + call + " thin()ned", Books.look(book), Books.look(before));
    }

    private static List<Named> illegalArguments() {
        List<Named> calls = new ArrayList<>();
        addIllegalOffers(calls);
        int[] dropped = {LEAST, -1, 2001, TOP};
        for (int n : dropped) {
            calls.add(new Named("drop(" + n + ")", book -> book.drop(n)));
        }
        int[] sent = {LEAST, -1, 0, 501, TOP};
        for (int n : sent) {
            calls.add(new Named(n + " offers", book -> book.offers(n, 1, 1, 7, 0)));
            calls.add(new Named(n + " offers, no producer", book -> book.offers(n, -1, -1, -1, 0)));
        }
        int[] whats = {LEAST, -1, 6, TOP};
        for (int what : whats) {
            calls.add(new Named("known(1, " + what + ")", book -> book.known(1, what)));
            calls.add(new Named("batch(0, " + what + ")", book -> book.batch(0, what)));
            calls.add(new Named("count(" + what + ")", book -> book.count(what)));
        }
        calls.add(new Named("known(-1, 0)", book -> book.known(-1, 0)));
        calls.add(new Named("known(least, 4)", book -> book.known(Long.MIN_VALUE, 4)));
        calls.add(new Named("batch(-1, 0)", book -> book.batch(-1, 0)));
        calls.add(new Named("batch(count, 0)", book -> book.batch(book.count(0), 0)));
        calls.add(new Named("batch(2000, 5)", book -> book.batch(2000, 5)));
        return calls;
    }

    private static void addIllegalOffers(List<Named> calls) {
        long[][] batches = {
            {1, 1, 7, -1}, {1, 1, 7, 1000}, {1, 1, 7, TOP}, {1, -1, 7, 0}, {1, 32768, 0, 0},
            {1, 1, -1, 0}, {1, 1, LEAST, 0}, {-2, 0, 0, 0}, {-2, -1, -1, 0},
            {Long.MIN_VALUE, 0, 0, 0}, {-1, 0, -1, 0}, {-1, -1, 0, 0}, {-1, -1, -1, -1},
            {-1, -1, -1, 1000}, {9, 0, 0, 1000}, {9, -1, -1, 0}};
        for (long[] b : batches) {
            String name = "(" + b[0] + ", " + b[1] + ", " + b[2] + ", " + b[3] + ")";
            calls.add(new Named("offer" + name,
                    book -> book.offer(b[0], (int) b[1], (int) b[2], (int) b[3])));
            calls.add(new Named("offers" + name,
                    book -> book.offers(3, b[0], (int) b[1], (int) b[2], (int) b[3])));
        }
    }

    private static List<Named> withoutRoom() {
        return List.of(
                new Named("offer, unknown", book -> book.offer(9, 0, 0, 0)),
                new Named("offer, a greater epoch", book -> book.offer(1, 2, 0, 0)),
                new Named("offer, the next one", book -> book.offer(1, 1, book.known(1, 2), 0)),
                new Named("offer, no producer", book -> book.offer(-1, -1, -1, 999)),
                new Named("offers, unknown", book -> book.offers(2, 9, 0, 0, 0)),
                new Named("offers, a greater epoch", book -> book.offers(2, 1, 2, 0, 0)),
                new Named("offers, the next one", book -> book.offers(1, 1, 1, book.known(1, 2), 0)),
                new Named("offers, fenced", book -> book.offers(500, 1, 0, 0, 999)),
                new Named("offers, no producer", book -> book.offers(500, -1, -1, -1, 0)));
    }
}
