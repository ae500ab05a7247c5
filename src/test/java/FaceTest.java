import java.lang.reflect.Constructor;
import java.lang.reflect.Field;
import java.lang.reflect.Method;
import java.lang.reflect.Modifier;
import java.util.Set;
import java.util.TreeSet;

/** The public face, as the document gives it, and nothing else that is not private. */
public final class FaceTest {
    private static final Check check = new Check("face");

    private static final String INDEX = " IndexOutOfBoundsException";
    private static final String ARGUMENT = " IllegalArgumentException";
    private static final String STATE = " IllegalStateException";

    private static final Set<String> FACE = Set.of(
            "int build(int int int) throws" + ARGUMENT + STATE,
            "int span(int int int int) throws" + INDEX + ARGUMENT + STATE,
            "int add(int) throws" + INDEX + STATE,
            "int setWind(int int) throws" + INDEX + ARGUMENT,
            "int platform(int int) throws" + INDEX,
            "int line(int int) throws" + INDEX,
            "int ride(int int) throws" + INDEX + ARGUMENT,
            "int come(int int int int) throws" + INDEX + ARGUMENT + STATE,
            "int rider(int int) throws" + INDEX,
            "int queue(int int) throws" + INDEX,
            "int pass(int) throws" + ARGUMENT,
            "int count(int) throws" + INDEX,
            "int way(int int int) throws" + INDEX + ARGUMENT,
            "int arrives(int) throws" + INDEX,
            "int advise(int) throws" + ARGUMENT,
            "double mean() throws",
            "long digest() throws");

    public static void main(String[] args) {
        Class<?> face = ZipCanopy.class;
        check.same("kind of class", face.getModifiers(), Modifier.PUBLIC | Modifier.FINAL);
        Set<String> found = new TreeSet<>();
        for (Method method : face.getDeclaredMethods()) {
            if (!Modifier.isPrivate(method.getModifiers())) {
                check.same("kind of " + method.getName(), method.getModifiers(), Modifier.PUBLIC);
                found.add(told(method));
            }
        }
        check.isTrue("the face is " + found, found.equals(FACE));
        for (Constructor<?> constructor : face.getDeclaredConstructors()) {
            check.same("kind of constructor", constructor.getModifiers(), Modifier.PUBLIC);
            check.same("its parameters", constructor.getParameterCount(), 0);
        }
        for (Field field : face.getDeclaredFields()) {
            check.isTrue(field.getName() + " is private and final",
                    Modifier.isPrivate(field.getModifiers()) && Modifier.isFinal(field.getModifiers()));
        }
        for (Class<?> inside : face.getDeclaredClasses()) {
            check.isTrue(inside.getName() + " is static, and not public",
                    Modifier.isStatic(inside.getModifiers()) && !Modifier.isPublic(inside.getModifiers()));
        }
        check.end();
    }

    private static String told(Method method) {
        StringBuilder parameters = new StringBuilder();
        for (Class<?> type : method.getParameterTypes()) {
            parameters.append(parameters.length() == 0 ? "" : " ").append(type.getSimpleName());
        }
        StringBuilder exceptions = new StringBuilder();
        for (Class<?> type : method.getExceptionTypes()) {
            exceptions.append(" ").append(type.getSimpleName());
        }
        return method.getReturnType().getSimpleName() + " " + method.getName() + "(" + parameters + ") throws"
                + exceptions;
    }
}
