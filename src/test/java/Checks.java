import java.util.NoSuchElementException;

/** Counts the answers that are not due, for tests that end with exit code 1 when there is one. */
final class Checks {
    static final String STATE = "IllegalStateException";
    static final String ARGUMENT = "IllegalArgumentException";
    static final String INDEX = "IndexOutOfBoundsException";
    static final String ELEMENT = "NoSuchElementException";
    static final String UNSUPPORTED = "UnsupportedOperationException";

    /** How many wrong answers of one sentence are told. */
    private static final int MOST_TOLD = 8;

    private final String name;
    private String sentence = "";
    private int sentences = 0;
    private int asked = 0;
    private int wrong = 0;
    private int told = 0;

    Checks(String name) {
        this.name = name;
    }

    /** A call with an answer. */
    interface Call {
        Object answer();
    }

    /** A call without one. */
    interface Deed {
        void happen();
    }

    /** The cases of one sentence of the document: they must ask something, and throw nothing. */
    void sentence(String words, Deed cases) {
        sentence = " [" + words + "]";
        sentences++;
        told = 0;
        int before = asked;
        refusesNone(cases);
        holds("something is asked", asked > before);
        sentence = "";
    }

    void same(String what, long got, long due) {
        count(got == due, what, Long.toString(got), Long.toString(due));
    }

    void same(String what, double got, double due) {
        count(got == due, what, Double.toString(got), Double.toString(due));
    }

    void same(String what, String got, String due) {
        count(got.equals(due), what, got, due);
    }

    void holds(String what, boolean got) {
        count(got, what, "false", "true");
    }

    void refuses(String due, String what, Call call) {
        same(what, told(call), "throws." + due);
    }

    void refusesDeed(String due, String what, Deed deed) {
        refuses(due, what, () -> {
            deed.happen();
            return "nothing";
        });
    }

    private void refusesNone(Deed cases) {
        try {
            cases.happen();
        } catch (RuntimeException e) {
            count(false, "a case", "throws " + e, "no such throw");
        }
    }

    /** What a call answers, or which exception it throws, as a text. */
    static String told(Call call) {
        try {
            return String.valueOf(call.answer());
        } catch (IllegalStateException | IllegalArgumentException | IndexOutOfBoundsException
                | NoSuchElementException | UnsupportedOperationException e) {
            return "throws." + e.getClass().getSimpleName();
        }
    }

    void end() {
        System.out.println(name + ": " + (sentences > 0 ? sentences + " sentences, " : "") + asked
                + " checks, " + wrong + " wrong");
        if (wrong != 0 || asked == 0) {
            System.exit(1);
        }
    }

    private void count(boolean right, String what, String got, String due) {
        asked++;
        if (!right) {
            wrong++;
            told++;
            if (told <= MOST_TOLD) {
                System.out.println(name + sentence + ": " + what + " answered " + got
                        + ", due is " + due);
            }
        }
    }
}
