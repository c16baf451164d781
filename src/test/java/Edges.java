import java.util.function.Consumer;
import java.util.function.LongSupplier;
import java.util.function.Supplier;

/**
 * Checks of boundary cases. Each is told under the sentence of the document that names it, and each
 * refused call is made on one of two like ledgers, which must answer alike afterwards.
 */
final class Edges {
    private final Checks checks;
    private String sentence = "";

    Edges(String test) {
        checks = new Checks(test);
    }

    /** The checks that follow are about these words of the section of this promise. */
    void promise(int number, String words) {
        sentence = "promise " + number + ", \"" + words + "\": ";
    }

    /** The same for words of "Terms", and the promises that use them. */
    void terms(String promises, String words) {
        sentence = "Terms for promise " + promises + ", \"" + words + "\": ";
    }

    void due(String call, long got, long want) {
        checks.due(sentence + call, got, want);
    }

    void due(String call, double got, double want) {
        checks.due(sentence + call, got, want);
    }

    /** A call at the edge of what is allowed: an exception is told as a wrong answer. */
    void allowed(String call, LongSupplier action, long want) {
        checks.due(sentence + call, Checks.outcome(action), Long.toString(want));
    }

    void index(String call, Supplier<AmendsLedger> made, Consumer<AmendsLedger> action) {
        refused(call, IndexOutOfBoundsException.class, made, action);
    }

    void argument(String call, Supplier<AmendsLedger> made, Consumer<AmendsLedger> action) {
        refused(call, IllegalArgumentException.class, made, action);
    }

    void state(String call, Supplier<AmendsLedger> made, Consumer<AmendsLedger> action) {
        refused(call, IllegalStateException.class, made, action);
    }

    /** For a ledger that has too few calls left for a look at all saved states. */
    void state(String call, Runnable action) {
        checks.refused(sentence + call, IllegalStateException.class, action);
    }

    /** The call saves one state, also if it changes nothing, and undo brings that back. */
    void undoable(String call, Supplier<AmendsLedger> made, Consumer<AmendsLedger> action) {
        AmendsLedger told = withRoom(made.get());
        AmendsLedger twin = withRoom(made.get());
        int before = told.count(11);
        action.accept(told);
        due(call + " saves one state", told.count(11), before + 1);
        allowed(call + " is undone", told::undo, before);
        alike(call + " is undone", told, twin);
    }

    void end() {
        checks.end();
    }

    /** Of six saved states the oldest is dropped, so that one more will be counted. */
    private static AmendsLedger withRoom(AmendsLedger x) {
        x.base(0, x.kind(0, 0));
        x.undo();
        return x;
    }

    private void refused(String call, Class<? extends RuntimeException> want,
            Supplier<AmendsLedger> made, Consumer<AmendsLedger> action) {
        AmendsLedger told = made.get();
        checks.refused(sentence + call, want, () -> action.accept(told));
        alike(call + " is refused and changes nothing", told, made.get());
    }

    /** The digest covers all but the saved states, which come to light one by one by undo. */
    void alike(String call, AmendsLedger one, AmendsLedger other) {
        due(call + ", digest", one.digest(), other.digest());
        for (int left = other.count(11); left > 0; left--) {
            allowed(call + ", undo", one::undo, other.undo());
            due(call + ", digest after undo", one.digest(), other.digest());
        }
        due(call + ", buffer", one.clearBuffer(), other.clearBuffer());
    }
}
