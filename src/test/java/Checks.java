import java.util.Set;

/** Counts the answers that are not as due, and prints them. */
final class Checks {
    // Just these and none below them: what the machine throws by itself is never an answer.
    private static final Set<Class<?>> NAMED_BY_THE_DOCUMENT = Set.of(
            IndexOutOfBoundsException.class, IllegalArgumentException.class, IllegalStateException.class);

    interface Call {
        Object make();
    }

    private int made = 0;
    private int wrong = 0;

    void due(String call, Object got, Object want) {
        made++;
        if (!want.equals(got)) {
            wrong++;
            System.out.println(call + " answered " + got + ", due is " + want);
        }
    }

    void due(String call, long got, long want) {
        due(call, Long.valueOf(got), Long.valueOf(want));
    }

    /** The call throws just this, and the works are as before. */
    void refused(StampWorks works, String call, Class<? extends RuntimeException> want, Call made) {
        long before = works.digest();
        due(call, answer(made), want.getName());
        due("digest() after " + call, works.digest(), before);
    }

    /** What a call answers: its number as a text, or the name of what it throws, if the document names that. */
    static String answer(Call call) {
        try {
            return String.valueOf(call.make());
        } catch (IndexOutOfBoundsException | IllegalArgumentException | IllegalStateException e) {
            if (!NAMED_BY_THE_DOCUMENT.contains(e.getClass())) {
                throw e;
            }
            return e.getClass().getName();
        }
    }

    int made() {
        return made;
    }

    void end() {
        System.out.println(made + " checks, " + wrong + " wrong");
        if (wrong != 0 || made == 0) {
            System.exit(1);
        }
    }
}
