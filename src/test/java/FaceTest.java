import java.lang.reflect.Constructor;
import java.lang.reflect.Field;
import java.lang.reflect.Method;
import java.lang.reflect.Modifier;
import java.util.Arrays;
import java.util.Set;
import java.util.TreeSet;

/** The public face, promise 1, and the rules of the language that reflection can see. */
public final class FaceTest {
    /** The document's face; INDEX, STATE and ARGUMENT are the exceptions that Check names so. */
    private static final String[] FACE = {
        "int object(int, int, int, int) throws STATE ARGUMENT",
        "boolean weak(int, int, boolean) throws INDEX",
        "int foam(int, int) throws INDEX STATE ARGUMENT",
        "int point(int, int, int, int) throws INDEX STATE ARGUMENT",
        "int value(int, int, int) throws INDEX",
        "int thickness(int, int, int) throws INDEX",
        "int pack(int, int) throws INDEX ARGUMENT",
        "int size(int) throws INDEX STATE",
        "int at(int, int) throws INDEX STATE",
        "int crate(int, int, int) throws STATE ARGUMENT",
        "int match() throws STATE",
        "boolean free(int) throws INDEX",
        "int split(int) throws ARGUMENT",
        "int lag(int) throws ARGUMENT",
        "int climate(int) throws STATE ARGUMENT",
        "int inside(int) throws INDEX",
        "int steady(int, int) throws ARGUMENT",
        "void limit(int, int) throws ARGUMENT",
        "boolean shock(int, int) throws ARGUMENT",
        "int route(int, int) throws ARGUMENT",
        "int drop(int) throws INDEX",
        "int count(int) throws INDEX",
    };

    public static void main(String[] args) {
        faceIsTheDocuments();
        restIsPrivate();
        promise1NewObject();
        objectsShareNothing();
        Check.end("FaceTest");
    }

    private static void faceIsTheDocuments() {
        Set<String> got = new TreeSet<>();
        for (Method method : CrateCushions.class.getDeclaredMethods()) {
            if (!Modifier.isPrivate(method.getModifiers())) {
                Check.yes(method + " is public and not static",
                        method.getModifiers() == Modifier.PUBLIC);
                got.add(signature(method));
            }
        }
        Check.yes("the methods " + got, got.equals(new TreeSet<>(Arrays.asList(FACE))));
        Constructor<?>[] made = CrateCushions.class.getDeclaredConstructors();
        Check.same("constructors", made.length, 1);
        Check.same("the constructor is public", made[0].getModifiers(), Modifier.PUBLIC);
        Check.same("its parameters", made[0].getParameterCount(), 0);
        Check.same("the class", CrateCushions.class.getModifiers(), Modifier.PUBLIC | Modifier.FINAL);
        Check.same("NONE", CrateCushions.NONE, -1);
    }

    private static String signature(Method method) {
        String types = Arrays.toString(method.getParameterTypes());
        StringBuilder text = new StringBuilder();
        text.append(method.getReturnType()).append(' ').append(method.getName()).append('(');
        text.append(types, 1, types.length() - 1).append(") throws");
        for (Class<?> thrown : method.getExceptionTypes()) {
            text.append(' ').append(shortName(thrown));
        }
        return text.toString();
    }

    private static String shortName(Class<?> thrown) {
        if (thrown == Check.INDEX) {
            return "INDEX";
        }
        if (thrown == Check.STATE) {
            return "STATE";
        }
        return thrown == Check.ARGUMENT ? "ARGUMENT" : thrown.getName();
    }

    private static void restIsPrivate() {
        for (Field field : CrateCushions.class.getDeclaredFields()) {
            boolean open = !Modifier.isPrivate(field.getModifiers());
            Check.same(field + " is open", open ? 1 : 0, field.getName().equals("NONE") ? 1 : 0);
        }
        Set<String> names = new TreeSet<>();
        for (String line : FACE) {
            names.add(line.substring(line.indexOf(' ') + 1, line.indexOf('(')));
        }
        for (Method method : CrateCushions.class.getDeclaredMethods()) {
            if (Modifier.isPrivate(method.getModifiers())) {
                Check.no(method + " bears a public name", names.contains(method.getName()));
            }
        }
        for (Class<?> inside : CrateCushions.class.getDeclaredClasses()) {
            Check.yes(inside + " is static", Modifier.isStatic(inside.getModifiers()));
            for (Method method : inside.getDeclaredMethods()) {
                Check.no(method + " bears a public name", names.contains(method.getName()));
            }
        }
    }

    private static void promise1NewObject() {
        CrateCushions x = new CrateCushions();
        for (int what = 0; what <= 5; what++) {
            Check.same("count(" + what + ") of a new object", x.count(what), 0);
        }
        Check.refused("size(0)", Check.STATE, () -> x.size(0));
        Check.refused("match()", Check.STATE, () -> x.match());
        Check.refused("weak(0, 0, true)", Check.INDEX, () -> x.weak(0, 0, true));
        Check.refused("value(0, 0, 0)", Check.INDEX, () -> x.value(0, 0, 0));
        Check.refused("free(0)", Check.INDEX, () -> x.free(0));
        Check.refused("inside(0)", Check.INDEX, () -> x.inside(0));
        Check.refused("drop(0)", Check.INDEX, () -> x.drop(0));
        Check.same("thickness(3, 0, 1000)", x.thickness(3, 0, 1000), -1);
        Check.same("split(1)", x.split(1), 0);
        Check.same("steady(-60000, 60000)", x.steady(-60000, 60000), 0);
        Check.same("lag(7)", x.lag(7), 4);
    }

    private static void objectsShareNothing() {
        CrateCushions x = new CrateCushions();
        CrateCushions y = new CrateCushions();
        x.object(1, 2, 3, 4);
        x.foam(0, 5);
        x.crate(9, 9, 9);
        x.pack(1, 0);
        x.match();
        x.climate(0);
        x.limit(1, 1);
        x.shock(2, 0);
        x.route(0, 1);
        for (int what = 0; what <= 5; what++) {
            Check.same("count(" + what + ") of another object", y.count(what), 0);
        }
        Check.no("shock(10000, 10000) of another object", y.shock(10000, 10000));
        Check.refused("drop(0) of another object", Check.INDEX, () -> y.drop(0));
        Check.refused("value(0, 0, 0) of another object", Check.INDEX, () -> y.value(0, 0, 0));
    }
}
