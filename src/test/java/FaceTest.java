import java.lang.reflect.Constructor;
import java.lang.reflect.Field;
import java.lang.reflect.Method;
import java.lang.reflect.Modifier;
import java.util.Arrays;
import java.util.Set;
import java.util.TreeSet;
import java.util.stream.Collectors;

/** The public face: just what the document has, and nothing else that can be seen. */
public final class FaceTest {
    private static final Check CHECK = new Check();
    private static final Class<?> FACE = SuccessionClerk.class;
    private static final String ARGUMENT = " IllegalArgumentException";
    private static final String BOTH = " IllegalArgumentException IllegalStateException";
    private static final String[] METHODS = {
        "int person(int,int)" + BOTH, "void amend(int,int,int)" + ARGUMENT, "void marry(int,int)" + BOTH,
        "boolean divorce(int)" + ARGUMENT, "int spouse(int)" + ARGUMENT, "void dies(int,int)" + BOTH,
        "boolean exclude(int,int,boolean)" + ARGUMENT, "int gift(int,int,int)" + BOTH,
        "void estate(int,int)" + ARGUMENT, "int heirs(int)" + BOTH, "int heir(int,int)" + BOTH,
        "long share(int,int)" + BOTH, "int order(int)" + BOTH, "int stem(int,int)" + BOTH, "int settle()",
        "long paid(int,int)" + ARGUMENT, "long total(int)" + ARGUMENT, "long got(int)" + ARGUMENT,
    };

    public static void main(String[] args) {
        CHECK.same("modifiers", Modifier.toString(FACE.getModifiers()), "public final");
        CHECK.same("package", FACE.getPackageName(), "");
        CHECK.same("above it", FACE.getSuperclass() == Object.class && FACE.getInterfaces().length == 0, true);
        methods();
        constructor();
        constant();
        classesInside();
        CHECK.end();
    }

    private static void methods() {
        Set<String> seen = new TreeSet<>();
        Set<String> names = new TreeSet<>();
        for (Method method : FACE.getDeclaredMethods()) {
            if (!Modifier.isPrivate(method.getModifiers())) {
                seen.add(told(method));
                names.add(method.getName());
            }
        }
        CHECK.same("methods", seen.toString(), new TreeSet<>(Arrays.asList(METHODS)).toString());
        for (Method method : FACE.getDeclaredMethods()) {
            if (Modifier.isPrivate(method.getModifiers())) {
                CHECK.same(method + " bears the name of a public one", names.contains(method.getName()), false);
            }
        }
    }

    private static void constructor() {
        CHECK.same("how many constructors", FACE.getDeclaredConstructors().length, 1);
        for (Constructor<?> constructor : FACE.getDeclaredConstructors()) {
            CHECK.same("constructor", constructor.toString(), "public SuccessionClerk()");
        }
    }

    private static void constant() {
        Set<String> seen = new TreeSet<>();
        for (Field field : FACE.getDeclaredFields()) {
            if (!Modifier.isPrivate(field.getModifiers())) {
                seen.add(field.toString());
            }
        }
        CHECK.same("fields", seen.toString(), "[public static final int SuccessionClerk.NONE]");
        CHECK.same("NONE", SuccessionClerk.NONE, -1);
    }

    /** LANGUAGE.md, 1: private or package-visible, and static. */
    private static void classesInside() {
        for (Class<?> inside : FACE.getDeclaredClasses()) {
            int is = inside.getModifiers();
            CHECK.same(inside + " can be seen", Modifier.isPublic(is) || Modifier.isProtected(is), false);
            CHECK.same(inside + " is static", Modifier.isStatic(is), true);
        }
    }

    private static String told(Method method) {
        CHECK.same(method.getName(), Modifier.toString(method.getModifiers()), "public");
        String parameters = Arrays.stream(method.getParameterTypes()).map(Class::getSimpleName)
            .collect(Collectors.joining(","));
        String thrown = Arrays.stream(method.getExceptionTypes()).map(type -> " " + type.getSimpleName())
            .collect(Collectors.joining());
        return method.getReturnType() + " " + method.getName() + "(" + parameters + ")" + thrown;
    }
}
