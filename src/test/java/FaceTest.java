import java.lang.reflect.Constructor;
import java.lang.reflect.Field;
import java.lang.reflect.Method;
import java.lang.reflect.Modifier;
import java.util.TreeSet;

/** The public face: just what the document lists, and nothing beside it that others could see. */
public final class FaceTest {
    private static final Due DUE = new Due();
    private static final String[] METHODS = {
        "void feed(int, int, int, int, int)", "int end(int)", "int read()", "int page(int)", "boolean drop()", "int rules()",
        "int allowed()", "int look(int)", "boolean set(int, int)", "int seed()", "void noSeeds()", "int start()", "int step()",
        "int run(int)", "boolean crash()", "int clock()", "int count(int)", "int known(int, int)", "int asking(int, int)",
        "int address(int)", "int find(int)", "int document(int, int)", "int where(int)", "int ask(int)", "int hit(int)",
        "long score(int)", "int made()", "int out(int)"};

    public static void main(String[] args) throws ReflectiveOperationException {
        DUE.is("class", Modifier.toString(WebFinder.class.getModifiers()), "public final");
        methods();
        others();
        thrown();
        classesInside();
        DUE.end("FaceTest");
    }

    private static String told(Method method) {
        StringBuilder text = new StringBuilder(method.getReturnType() + " " + method.getName() + "(");
        for (int i = 0; i < method.getParameterCount(); i++) {
            text.append(i == 0 ? "" : ", ").append(method.getParameterTypes()[i]);
        }
        return text.append(")").toString();
    }

    private static void methods() {
        TreeSet<String> names = new TreeSet<>();
        TreeSet<String> open = new TreeSet<>();
        for (Method method : WebFinder.class.getDeclaredMethods()) {
            if (Modifier.isPrivate(method.getModifiers())) {
                names.add(method.getName());
            } else {
                DUE.is(method.getName(), Modifier.toString(method.getModifiers()), "public");
                open.add(told(method));
            }
        }
        DUE.is("methods", open.toString(), new TreeSet<>(java.util.List.of(METHODS)).toString());
        for (Method method : WebFinder.class.getMethods()) {
            DUE.is("a private " + method.getName(), names.contains(method.getName()), false);
        }
    }

    private static void others() throws ReflectiveOperationException {
        for (Field field : WebFinder.class.getDeclaredFields()) {
            boolean none = field.getName().equals("NONE");
            DUE.is(field.getName() + " is private", Modifier.isPrivate(field.getModifiers()), !none);
        }
        DUE.is("NONE", WebFinder.NONE, -1);
        DUE.is("NONE", Modifier.toString(WebFinder.class.getField("NONE").getModifiers()), "public static final");
        Constructor<?>[] made = WebFinder.class.getDeclaredConstructors();
        DUE.is("constructors", made.length, 1);
        DUE.is("its parameters", made[0].getParameterCount(), 0);
        DUE.is("it is", Modifier.toString(made[0].getModifiers()), "public");
    }

    private static void thrown() throws ReflectiveOperationException {
        Method feed = WebFinder.class.getMethod("feed", int.class, int.class, int.class, int.class, int.class);
        DUE.is("feed throws", feed.getExceptionTypes()[0].getSimpleName(), "IllegalStateException");
        Method end = WebFinder.class.getMethod("end", int.class);
        DUE.is("end throws", end.getExceptionTypes()[0].getSimpleName(), "IllegalArgumentException");
    }

    private static void classesInside() {
        DUE.is("at most twelve classes", WebFinder.class.getDeclaredClasses().length <= 11, true);
        for (Class<?> inside : WebFinder.class.getDeclaredClasses()) {
            DUE.is(inside.getSimpleName(), Modifier.toString(inside.getModifiers()), "private static final");
            int fields = 0;
            for (Field field : inside.getDeclaredFields()) {
                boolean fixed = Modifier.isStatic(field.getModifiers());
                DUE.is(field.getName() + " is final", !fixed || Modifier.isFinal(field.getModifiers()), true);
                fields += fixed ? 0 : 1;
            }
            DUE.is(inside.getSimpleName() + " has twenty fields at most", fields <= 20, true);
        }
    }
}
