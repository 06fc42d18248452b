import java.util.ArrayList;
import java.util.List;

/** Ties each test of a boundary case to the sentence of the document that names the case. */
final class Edges {
    static final Class<IndexOutOfBoundsException> INDEX = IndexOutOfBoundsException.class;
    static final Class<IllegalArgumentException> ARGUMENT = IllegalArgumentException.class;
    static final Class<IllegalStateException> STATE = IllegalStateException.class;

    interface Making {
        TallyWax make();
    }

    interface Call {
        void on(TallyWax bank);
    }

    interface NumberCall {
        void on(TallyWax bank, int number);
    }

    final Checks checks = new Checks();
    private final Page document = Page.ofDocument();
    /** Lines of the document that have a test; a line is known by its section too. */
    private final List<String> tested = new ArrayList<>();

    // ---- sentences

    /** The test must hold, and the document must say the sentence in that section. */
    void holds(String section, String sentence, Runnable test) {
        noteAsTested(section, sentence);
        int before = checks.failures();
        checks.allows("the test of this sentence", test::run);
        if (checks.failures() > before) {
            System.out.println("  ^ " + section + ": " + sentence);
        }
    }

    void holds(int promise, String sentence, Runnable test) {
        holds(nameOf(promise), sentence, test);
    }

    private static String nameOf(int promise) {
        return "Promise " + promise;
    }

    private void noteAsTested(String section, String sentence) {
        boolean said = false;
        for (String line : document.section(section)) {
            if (line.contains(sentence)) {
                said = true;
                tested.add(section + line);
            }
        }
        checks.equal("that the document says in " + section + ": " + sentence, true, said);
    }

    /** In these promises each sentence that begins with Returns or Throws must have had a test. */
    void close(String name, int firstPromise, int lastPromise) {
        for (int promise = firstPromise; promise <= lastPromise; promise++) {
            String section = nameOf(promise);
            for (String line : document.section(section)) {
                if (line.startsWith("Returns") || line.startsWith("Throws")) {
                    checks.equal("that a test stands for " + section + ": " + line,
                            true, tested.contains(section + line));
                }
            }
        }
        checks.close(name);
    }

    // ---- refused calls

    /** The call must throw that class, and leave the bank as one on which it was never called. */
    void refuses(Class<? extends RuntimeException> want, Making making, String what, Call call) {
        TallyWax bank = making.make();
        checks.refuses(want, what, () -> call.on(bank));
        checks.equal("the bank after the refused " + what, State.of(making.make()), State.of(bank));
    }

    void changesNothing(Making making, String what, Call call) {
        TallyWax bank = making.make();
        call.on(bank);
        checks.equal("the bank after " + what, State.of(making.make()), State.of(bank));
    }

    /** From the least to the greatest the call is allowed; the first on either side, and far away, it is not. */
    void bounds(Class<? extends RuntimeException> want, Making making, int least, int greatest,
            String what, NumberCall call) {
        if (least <= greatest) {
            for (int number : new int[] {least, least + (greatest - least) / 2, greatest}) {
                TallyWax bank = making.make();
                checks.allows(what + " of " + number, () -> call.on(bank, number));
            }
        }
        for (int number : new int[] {least - 1, greatest + 1, Integer.MIN_VALUE, Integer.MAX_VALUE}) {
            refuses(want, making, what + " of " + number, bank -> call.on(bank, number));
        }
    }

    void personBounds(String what, NumberCall call) {
        bounds(INDEX, Banks::busy, 0, 7, what, call);
    }

    /** The call is given a tablet; where there is one, it has one line, whose witness, 7, is gone. */
    void tabletBounds(String what, NumberCall call) {
        for (int count : new int[] {0, 1, 7, 8}) {
            bounds(INDEX, () -> Banks.withTablets(count), 0, count - 1, what + ", tablets " + count + ", tablet", call);
        }
    }

    /** The call is given a line of tablet 0, whose witness, 7, is gone. */
    void lineBounds(String what, NumberCall call) {
        for (int count : new int[] {0, 1, 11, 12}) {
            bounds(INDEX, () -> Banks.withLines(count), 0, count - 1, what + ", lines " + count + ", line", call);
        }
        bounds(INDEX, Banks::withElevenLeft, 0, 10, what + ", 11 lines left, line", call);
        bounds(INDEX, Banks::withNoneLeft, 0, -1, what + ", no lines left, line", call);
    }
}
