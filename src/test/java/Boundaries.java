import java.lang.reflect.InvocationTargetException;
import java.lang.reflect.Method;
import java.util.ArrayList;
import java.util.Arrays;
import java.util.Comparator;
import java.util.List;

/**
 * What the tests of the document's boundaries share. Each of these tests is a static method of its own,
 * named promise..._, after the promise and the boundary; above it stands the sentence that it holds.
 */
abstract class Boundaries {
    static final Class<IndexOutOfBoundsException> INDEX = IndexOutOfBoundsException.class;
    static final Class<IllegalArgumentException> ARGUMENT = IllegalArgumentException.class;
    static final Class<IllegalStateException> STATE = IllegalStateException.class;
    static final int MIN = Integer.MIN_VALUE;
    static final int MAX = Integer.MAX_VALUE;

    private static final Checks CHECKS = new Checks();
    private static String test = "";

    static void runAll(Class<? extends Boundaries> tests) {
        Method[] methods = tests.getDeclaredMethods();
        Arrays.sort(methods, Comparator.comparing(Method::getName));
        for (Method method : methods) {
            if (method.getName().startsWith("promise")) {
                runOne(method);
            }
        }
        CHECKS.end();
    }

    private static void runOne(Method method) {
        test = method.getName() + ": ";
        int before = CHECKS.made();
        try {
            method.invoke(null);
        } catch (InvocationTargetException e) {
            CHECKS.due(test + "the test", e.getCause(), "no exception");
        } catch (IllegalAccessException e) {
            CHECKS.due(test + "the test", e, "no exception");
        }
        CHECKS.due(test + "makes checks", CHECKS.made() > before, true);
    }

    // ---- checks

    static void due(String call, long got, long want) {
        CHECKS.due(test + call, got, want);
    }

    static void dueShare(StampWorks works, double want) {
        CHECKS.due(test + "share()", works.share(), want);
    }

    /** The call throws just this, and the works are as before. */
    static void refused(StampWorks works, String call, Class<? extends RuntimeException> want, Checks.Call made) {
        List<String> before = state(works);
        CHECKS.due(test + call, Checks.answer(made), want.getName());
        CHECKS.due(test + "the works after " + call, state(works), before);
    }

    /** The call answers this, and the works are as before. */
    static void asked(StampWorks works, String call, long want, Checks.Call made) {
        List<String> before = state(works);
        CHECKS.due(test + call, Checks.answer(made), String.valueOf(want));
        CHECKS.due(test + "the works after " + call, state(works), before);
    }

    /** What the works hold, and what they foresee; few calls, as an object is good for 512. */
    private static List<String> state(StampWorks works) {
        List<String> told = new ArrayList<>();
        told.add(String.valueOf(works.digest()));
        told.add(String.valueOf(works.share()));
        for (int what = 0; what < 5; what++) {
            int foreseen = what;
            told.add(Checks.answer(() -> works.foresee(30, foreseen)));
        }
        return told;
    }

    /** Lumps, grit and sand of a box, rock and tin together. */
    static void sizesTell(StampWorks works, int box, long lumps, long grit, long sand) {
        due("lumps of box " + box, works.box(box, 4) + works.box(box, 7), lumps);
        due("grit of box " + box, works.box(box, 5) + works.box(box, 8), grit);
        due("sand of box " + box, works.box(box, 6) + works.box(box, 9), sand);
    }

    static void lotTells(StampWorks works, int index, long rock, long tin, long hardness) {
        due("lot(" + index + ", 0)", works.lot(index, 0), rock);
        due("lot(" + index + ", 1)", works.lot(index, 1), tin);
        due("lot(" + index + ", 2)", works.lot(index, 2), hardness);
    }

    static void buddleTells(StampWorks works, int buddle, long rock, long tin) {
        due("buddle(" + buddle + ", 0)", works.buddle(buddle, 0), rock);
        due("buddle(" + buddle + ", 1)", works.buddle(buddle, 1), tin);
    }

    static void storeTells(StampWorks works, long rock, long tin) {
        due("count(7)", works.count(7), rock);
        due("count(8)", works.count(8), tin);
    }

    static void tailsTell(StampWorks works, long rock, long tin) {
        due("count(11)", works.count(11), rock);
        due("count(10)", works.count(10), tin);
    }
}
