import java.io.IOException;
import java.util.Arrays;
import java.util.function.Supplier;
import java.util.function.ToLongFunction;

/** Tests that each hold one quoted sentence of the document to its word. */
final class Edges {
    private final Check check = new Check();
    private final Doc doc = new Doc();
    private String where = "";

    Edges() throws IOException {
    }

    /** A test of its own for a sentence, which must stand in that section of the document. */
    void of(String section, String quote, Runnable test) {
        where = section + ", \"" + quote + "\": ";
        if (!doc.quote(section, quote)) {
            due("the document doesn't say this", 0, 1);
        }
        int before = check.asked();
        try {
            test.run();
        } catch (RuntimeException thrown) {
            // nothing may be thrown, but the sentences behind this one are tested all the same
            due("throws " + thrown, 0, 1);
        }
        if (check.asked() == before) {
            due("nothing was asked", 0, 1);
        }
    }

    void due(String call, long got, long want) {
        check.due(where + call, got, want);
    }

    void dueAll(String calls, long want, long... got) {
        check.dueAll(where + calls, want, got);
    }

    /** Several answers, each with its own due. */
    void dueRow(String calls, long[] want, long... got) {
        due(calls + ": how many", got.length, want.length);
        for (int i = 0; i < Math.min(got.length, want.length); i++) {
            due(calls + " [" + i + "]", got[i], want[i]);
        }
    }

    /** The answer is due, and the object is then as another one that was never asked. */
    void dueUnchanged(String call, Supplier<AntLease> state, long want, ToLongFunction<AntLease> ask) {
        AntLease asked = state.get();
        due(call, ask.applyAsLong(asked), want);
        long[] got = Everything.of(asked);
        long[] still = Everything.of(state.get());
        int at = Arrays.mismatch(got, still);
        due(call + " has changed what is seen at " + at, at < 0 ? 0 : got[at], at < 0 ? 0 : still[at]);
    }

    void end() {
        where = "";
        for (String words : doc.unquoted()) {
            due("no test for " + words, 0, 1);
        }
        check.end();
    }
}
