import java.util.NoSuchElementException;

/** Sentences of the document, each with a test of its own that is told with its promise. */
final class Sentences {
    interface Test {
        void run(Due due);
    }

    static final Class<NoSuchElementException> NO_SUCH = NoSuchElementException.class;
    static final Class<IllegalArgumentException> ARGUMENT = IllegalArgumentException.class;
    static final Class<IllegalStateException> STATE = IllegalStateException.class;

    private final String promise;
    private int tested = 0;
    private int broken = 0;

    Sentences(String promise) {
        this.promise = promise;
    }

    /** The sentence is quoted as it stands in the document; behind it stands which edge of it is meant. */
    Sentences holds(String sentence, String edge, Test test) {
        Due due = new Due(promise + ", \"" + sentence + "\", " + edge + ": ");
        try {
            test.run(due);
        } catch (RuntimeException e) {
            due.is("a call that nothing forbids", "throws." + e.getClass().getSimpleName(), "an answer");
        }
        tested++;
        if (!due.holds()) {
            broken++;
            System.out.println("broken: " + promise + ", \"" + sentence + "\", " + edge);
        }
        return this;
    }

    /** Ends the program with code 1 if a sentence of one of these is broken. */
    static void end(Sentences... all) {
        int tested = 0;
        int broken = 0;
        for (Sentences some : all) {
            tested += some.tested;
            broken += some.broken;
        }
        System.out.println(tested + " sentences and edges, " + broken + " broken");
        if (broken != 0 || tested == 0) {
            System.exit(1);
        }
    }
}
