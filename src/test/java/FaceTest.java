import java.lang.reflect.Constructor;
import java.lang.reflect.Field;
import java.lang.reflect.Method;
import java.lang.reflect.Modifier;
import java.util.ArrayList;
import java.util.Arrays;
import java.util.List;
import java.util.Set;
import java.util.TreeSet;

/** The face is the document's, and nothing but it can be seen from outside. */
public final class FaceTest {
    private static final String NUMBER = " throws IllegalArgumentException";
    private static final String STATE = " throws IllegalArgumentException IllegalStateException";
    private static final String HOOK = " throws IndexOutOfBoundsException";

    private static final String[] FACE = {
        "int hang(int int)" + STATE, "int take(int)" + STATE, "int rehang(int int)" + STATE,
        "int sweep()", "int hooks()", "int way()", "int coats()", "int tickets()",
        "int stateOf(int)" + HOOK, "int coatAt(int)" + HOOK, "int weightAt(int)" + HOOK,
        "int weight()", "int heaviestAt()",
        "int find(int)" + NUMBER, "int looksFor(int)" + NUMBER, "int placeFor(int)" + NUMBER,
        "int lookedAt(int int)" + NUMBER, "int allLooks()", "int farthest()",
        "int rows()", "int longestRow()", "int rowAt(int)" + HOOK,
        "int looksWith(int int)" + NUMBER, "int bestWay()", "int hooksWanted(int)" + NUMBER,
        "double meanLooks()", "long digest()",
    };

    public static void main(String[] args) {
        Class<?> c = CoatHooks.class;
        Due.answer("modifiers", Modifier.toString(c.getModifiers()), "public final");
        Due.answer("superclass", c.getSuperclass(), Object.class);
        Due.answer("interfaces", c.getInterfaces().length, 0);
        constructors(c);
        methods(c);
        for (Field f : c.getDeclaredFields()) {
            Due.answer("private field " + f.getName(), Modifier.isPrivate(f.getModifiers()), true);
            boolean fixed = !Modifier.isStatic(f.getModifiers()) || Modifier.isFinal(f.getModifiers());
            Due.answer("static field is final: " + f.getName(), fixed, true);
        }
        for (Class<?> inside : c.getDeclaredClasses()) {
            int m = inside.getModifiers();
            boolean kept = Modifier.isStatic(m) && !Modifier.isPublic(m) && !Modifier.isProtected(m);
            Due.answer("class inside " + inside.getName(), kept, true);
        }
        Due.end("FaceTest");
    }

    private static void constructors(Class<?> c) {
        Due.answer("constructors", c.getDeclaredConstructors().length, 1);
        Constructor<?> made = c.getDeclaredConstructors()[0];
        Due.answer("constructor", made.toString(), "public CoatHooks()");
    }

    private static void methods(Class<?> c) {
        List<String> seen = new ArrayList<>();
        Set<String> names = new TreeSet<>();
        for (Method m : c.getDeclaredMethods()) {
            if (!Modifier.isPrivate(m.getModifiers())) {
                Due.answer("modifiers of " + m.getName(), Modifier.toString(m.getModifiers()), "public");
                seen.add(text(m));
                names.add(m.getName());
            }
        }
        List<String> due = new ArrayList<>(Arrays.asList(FACE));
        seen.sort(null);
        due.sort(null);
        Due.answer("public methods", seen, due);
        for (Method m : c.getDeclaredMethods()) {
            boolean clash = Modifier.isPrivate(m.getModifiers()) && names.contains(m.getName());
            Due.answer("a private method with a public name: " + m.getName(), clash, false);
        }
    }

    private static String text(Method m) {
        StringBuilder b = new StringBuilder();
        b.append(m.getReturnType()).append(' ').append(m.getName()).append('(');
        for (int i = 0; i < m.getParameterCount(); i++) {
            b.append(i == 0 ? "" : " ").append(m.getParameterTypes()[i]);
        }
        b.append(')');
        for (int i = 0; i < m.getExceptionTypes().length; i++) {
            b.append(i == 0 ? " throws " : " ").append(m.getExceptionTypes()[i].getSimpleName());
        }
        return b.toString();
    }
}
