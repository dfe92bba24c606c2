import java.util.function.IntSupplier;

/** Compares answers with those that are due, prints every one that is not, and counts them. */
final class Checks {
    static final String NO_ELEMENT = "throws.NoSuchElementException";
    static final String ARGUMENT = "throws.IllegalArgumentException";
    static final String STATE = "throws.IllegalStateException";

    private String where = "";
    private int wrong = 0;
    private int done = 0;

    void at(String place) {
        where = place;
    }

    void due(String call, Object got, Object want) {
        done++;
        if (!want.equals(got)) {
            wrong++;
            System.out.println(where + ": " + call + " answered " + got + ", due is " + want);
        }
    }

    /** What a call answers, or the name of what it throws. */
    static Object answer(IntSupplier call) {
        try {
            return call.getAsInt();
        } catch (RuntimeException e) {
            return "throws." + e.getClass().getSimpleName();
        }
    }

    void fails(String call, IntSupplier run, String want) {
        due(call, answer(run), want);
    }

    void end() {
        System.out.println(done + " checks, " + wrong + " wrong");
        if (wrong != 0) {
            System.exit(1);
        }
    }
}
