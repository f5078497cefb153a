import java.lang.reflect.InvocationTargetException;
import java.lang.reflect.Method;
import java.lang.reflect.Modifier;
import java.util.Arrays;
import java.util.TreeMap;

/** A sentence of the document; an answer that is not as it says is told with its place and its words. */
final class Sentence {
    interface OfOne {
        Object answer(int x);
    }

    private static int made = 0;

    private final String told;

    Sentence(String section, String words) {
        made++;
        told = section + ", \"" + words + "\": ";
    }

    Sentence(int promise, String words) {
        this("Promise " + promise, words);
    }

    void due(String what, Due.Call call, Object answer) {
        Due.answer(told + what, Due.outcome(call), answer);
    }

    void list(String what, int[] got, int... due) {
        Due.list(told + what, got, due);
    }

    /** Each of these is a wrong argument of the call. */
    void refuses(Class<?> thrown, String name, OfOne call, int... wrong) {
        for (int x : wrong) {
            due(name + " of " + x, () -> call.answer(x), thrown);
        }
    }

    /** The call answers (or throws) this, and all that the theatre holds is as it was. */
    void changesNothing(Object answer, String what, CoatHooks x, Due.Call call) {
        String before = all(x);
        due(what, call, answer);
        Due.answer(told + "what is held after " + what, all(x), before);
    }

    private static String all(CoatHooks x) {
        return "hooks " + x.hooks() + ", way " + x.way()
            + ", states " + Arrays.toString(Theatres.statesOf(x))
            + ", coats " + Arrays.toString(Theatres.coatsOf(x))
            + ", weights " + Arrays.toString(Theatres.weightsOf(x));
    }

    /** Runs each function of the class that takes nothing and is not private: each is the test of one sentence. */
    static void runAll(Class<?> tests) throws IllegalAccessException {
        TreeMap<String, Method> byName = new TreeMap<>();
        for (Method m : tests.getDeclaredMethods()) {
            boolean own = Modifier.isStatic(m.getModifiers()) && !Modifier.isPrivate(m.getModifiers());
            if (own && m.getParameterCount() == 0 && !m.isSynthetic()) {
                byName.put(m.getName(), m);
            }
        }
        for (Method m : byName.values()) {
            int before = made;
            try {
                m.invoke(null);
            } catch (InvocationTargetException e) {
                Due.answer(m.getName() + " came to its end", e.getCause(), "no exception");
            }
            Due.answer(m.getName() + " names one sentence", made - before, 1);
        }
        Due.end(tests.getSimpleName() + ", " + byName.size() + " cases");
    }
}
