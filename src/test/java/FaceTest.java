import java.lang.reflect.Constructor;
import java.lang.reflect.Field;
import java.lang.reflect.Method;
import java.lang.reflect.Modifier;
import java.util.Arrays;
import java.util.Set;
import java.util.TreeSet;
import java.util.stream.Collectors;

/** The public face: just what the document has, and nothing else that can be seen. */
public final class FaceTest {
    private static final Check CHECK = new Check();
    private static final String ARGUMENT = " IllegalArgumentException";
    private static final String BOTH = " IllegalArgumentException IllegalStateException";
    private static final String[] METHODS = {
        "int person(int,int)" + BOTH, "void amend(int,int,int)" + ARGUMENT, "void marry(int,int)" + BOTH,
        "boolean divorce(int)" + ARGUMENT, "int spouse(int)" + ARGUMENT, "void dies(int,int)" + BOTH,
        "boolean exclude(int,int,boolean)" + ARGUMENT, "int gift(int,int,int)" + BOTH,
        "void estate(int,int)" + ARGUMENT, "int heirs(int)" + BOTH, "int heir(int,int)" + BOTH,
        "long share(int,int)" + BOTH, "int order(int)" + BOTH, "int stem(int,int)" + BOTH, "int settle()",
        "long paid(int,int)" + ARGUMENT, "long total(int)" + ARGUMENT, "long got(int)" + ARGUMENT,
    };

    public static void main(String[] args) {
        Class<?> face = SuccessionClerk.class;
        CHECK.same("modifiers", Modifier.toString(face.getModifiers()), "public final");
        CHECK.same("package", face.getPackageName(), "");
        Set<String> seen = new TreeSet<>();
        for (Method method : face.getDeclaredMethods()) {
            if (!Modifier.isPrivate(method.getModifiers())) {
                seen.add(told(method));
            }
        }
        CHECK.same("methods", seen.toString(), new TreeSet<>(Arrays.asList(METHODS)).toString());
        for (Constructor<?> constructor : face.getDeclaredConstructors()) {
            CHECK.same("constructor", constructor.toString(), "public SuccessionClerk()");
        }
        for (Field field : face.getDeclaredFields()) {
            CHECK.same("field " + field, Modifier.isPrivate(field.getModifiers()), !field.getName().equals("NONE"));
        }
        CHECK.same("NONE", SuccessionClerk.NONE, -1);
        CHECK.end();
    }

    private static String told(Method method) {
        CHECK.same(method.getName(), Modifier.toString(method.getModifiers()), "public");
        String parameters = Arrays.stream(method.getParameterTypes()).map(Class::getSimpleName)
            .collect(Collectors.joining(","));
        String thrown = Arrays.stream(method.getExceptionTypes()).map(type -> " " + type.getSimpleName())
            .collect(Collectors.joining());
        return method.getReturnType() + " " + method.getName() + "(" + parameters + ")" + thrown;
    }
}
