import java.lang.reflect.Field;
import java.lang.reflect.Method;
import java.lang.reflect.Modifier;
import java.util.Arrays;
import java.util.Set;
import java.util.TreeSet;

/** The public face: the class of the document with its constant, constructor and methods, and no other member to be seen. */
public final class FaceTest {
    private static final String[] METHODS = {
        "int feed(int a, int b, int c, int d, int e)",
        "int end(int n)",
        "int text(int sort, int at)",
        "int fault(int what)",
        "int archive(int archive, int what)",
        "int version(int archive, int document, int version, int what)",
        "int life(int archive, int document, int version, int place, int what)",
        "int word(int archive, int k, int what)",
        "int dated(int archive, int date)",
        "int shared(int archive, int document, int a, int b)",
        "int common(int archive, int a, int v, int b, int w)",
        "int question(int questions, int k, int what)",
        "int holds(int archive, int questions, int k, int document, int version)",
        "int spans(int archive, int questions, int k, int document, int span, boolean last)",
        "int times(int archive, int questions, int k, int document, int version)",
        "int found(int archive, int questions, int k, int what)",
        "int best(int archive, int questions, int what)",
        "int implies(int archive, int questions, int a, int b)",
        "int fact(int hunt, int k, int what)",
        "int fits(int archive, int hunt, int what)",
        "int drawn(int archive, int seed, int n, int document, int what)",
        "int count(int sort)",
        "boolean image(int k)",
        "boolean again(int k)"};

    private FaceTest() {
    }

    public static void main(String[] args) throws ReflectiveOperationException {
        theClass();
        methods();
        fields();
        constructors();
        classesInside();
        Due.finish("FaceTest");
    }

    private static void theClass() {
        Due.sentence("public final class VersionSearch");
        Due.is("modifiers", VersionSearch.class.getModifiers(), Modifier.PUBLIC | Modifier.FINAL);
        Due.is("of no other class", VersionSearch.class.getSuperclass() == Object.class, true);
        Due.is("interfaces", VersionSearch.class.getInterfaces().length, 0);
        Due.is("without a package", VersionSearch.class.getPackageName().isEmpty(), true);
    }

    private static void methods() {
        Due.sentence("public int feed(..) .. public boolean again(..)");
        Set<String> due = new TreeSet<>();
        for (String method : METHODS) {
            due.add(method.replaceAll(" \\w+(?=[,)])", "").replace(", ", ","));
        }
        Set<String> got = new TreeSet<>();
        for (Method method : VersionSearch.class.getDeclaredMethods()) {
            if (!Modifier.isPrivate(method.getModifiers())) {
                Due.is("modifiers of " + method.getName(), method.getModifiers(), Modifier.PUBLIC);
                String parameters = Arrays.toString(method.getParameterTypes()).replace(", ", ",");
                got.add(method.getReturnType() + " " + method.getName() + "(" + parameters.substring(1, parameters.length() - 1) + ")");
            }
        }
        Due.is("methods", due.size(), 24);
        for (String method : due) {
            Due.is("has " + method, got.contains(method), true);
        }
        for (String method : got) {
            Due.is("may have " + method, due.contains(method), true);
        }
    }

    private static void fields() throws ReflectiveOperationException {
        Due.sentence("public static final int NONE = -1");
        int open = 0;
        for (Field field : VersionSearch.class.getDeclaredFields()) {
            open += Modifier.isPrivate(field.getModifiers()) ? 0 : 1;
        }
        Field none = VersionSearch.class.getDeclaredField("NONE");
        Due.is("fields to be seen", open, 1);
        Due.is("modifiers of NONE", none.getModifiers(), Modifier.PUBLIC | Modifier.STATIC | Modifier.FINAL);
        Due.is("NONE is an int", none.getType() == int.class, true);
        Due.is("NONE", none.getInt(null), -1);
    }

    private static void constructors() {
        Due.sentence("public VersionSearch()");
        Due.is("constructors", VersionSearch.class.getDeclaredConstructors().length, 1);
        Due.is("public ones", VersionSearch.class.getConstructors().length, 1);
        Due.is("parameters", VersionSearch.class.getDeclaredConstructors()[0].getParameterCount(), 0);
    }

    private static void classesInside() {
        Due.sentence("the classes inside it, which are private or package-visible and static");
        for (Class<?> inside : VersionSearch.class.getDeclaredClasses()) {
            int modifiers = inside.getModifiers();
            Due.is(inside.getSimpleName(), Modifier.isStatic(modifiers) && (modifiers & (Modifier.PUBLIC | Modifier.PROTECTED)) == 0, true);
            for (Class<?> deeper : inside.getDeclaredClasses()) {
                Due.is("a class in a class, " + deeper.getSimpleName(), Modifier.isStatic(deeper.getModifiers()), true);
            }
        }
    }
}
