import java.lang.reflect.Constructor;
import java.lang.reflect.Field;
import java.lang.reflect.Member;
import java.lang.reflect.Method;
import java.lang.reflect.Modifier;
import java.util.Arrays;
import java.util.Set;
import java.util.TreeSet;
import java.util.stream.Collectors;

/** The class has the document's face, and nothing else that others can see. */
public final class FaceTest {
    private static final Set<String> METHODS = new TreeSet<>(Arrays.asList(
            "int add(int,int) throws IllegalArgumentException,IllegalStateException",
            "int couple(int,int,int,int) throws NoSuchElementException,IllegalStateException",
            "int uncouple(int,int) throws NoSuchElementException,IllegalStateException",
            "void reset(int) throws NoSuchElementException",
            "int rounds(int,int) throws IllegalArgumentException",
            "int coupling(int,int) throws NoSuchElementException",
            "int about(int,int) throws NoSuchElementException,IllegalArgumentException",
            "int directory(int,int) throws NoSuchElementException",
            "int view(int,int,int) throws NoSuchElementException",
            "int put(int,int,int) throws NoSuchElementException,IllegalArgumentException",
            "int get(int,int,int) throws NoSuchElementException,IllegalArgumentException",
            "int side(int,int,int) throws NoSuchElementException,IllegalArgumentException",
            "int order(int,int) throws NoSuchElementException",
            "int settled() throws ",
            "int count(int) throws IllegalArgumentException"));

    public static void main(String[] args) {
        Checks checks = new Checks();
        checks.at("face");
        Class<?> face = ConsistBus.class;
        checks.due("public and final", face.getModifiers() & (Modifier.PUBLIC | Modifier.FINAL),
                Modifier.PUBLIC | Modifier.FINAL);
        checks.due("NONE", ConsistBus.NONE, -1);
        checkMethods(checks, face);
        checkFields(checks, face);
        Constructor<?>[] constructors = face.getDeclaredConstructors();
        checks.due("constructors", constructors.length, 1);
        checks.due("constructor", constructors[0].toString(), "public ConsistBus()");
        for (Class<?> inner : face.getDeclaredClasses()) {
            checks.due(inner + " is not public",
                    inner.getModifiers() & (Modifier.PUBLIC | Modifier.PROTECTED), 0);
        }
        checks.end();
    }

    private static void checkMethods(Checks checks, Class<?> face) {
        Set<String> visible = new TreeSet<>();
        Set<String> names = new TreeSet<>();
        for (Method method : face.getDeclaredMethods()) {
            if (Modifier.isPublic(method.getModifiers())) {
                visible.add(written(method));
                names.add(method.getName());
            }
        }
        checks.due("public methods", visible, METHODS);
        for (Method method : face.getDeclaredMethods()) {
            if (!Modifier.isPublic(method.getModifiers())) {
                checks.due(method + " is private", isHidden(method), true);
                checks.due(method + " has a name of its own", names.contains(method.getName()), false);
            }
        }
    }

    private static void checkFields(Checks checks, Class<?> face) {
        for (Field field : face.getDeclaredFields()) {
            boolean none = field.getName().equals("NONE");
            checks.due(field + " is as visible as it should be", isHidden(field), !none);
            if (Modifier.isStatic(field.getModifiers())) {
                checks.due(field + " is final", Modifier.isFinal(field.getModifiers()), true);
            }
        }
    }

    private static boolean isHidden(Member member) {
        return Modifier.isPrivate(member.getModifiers()) || member.isSynthetic();
    }

    private static String written(Method method) {
        return method.getReturnType() + " " + method.getName() + "("
                + simpleNames(method.getParameterTypes()) + ") throws "
                + simpleNames(method.getExceptionTypes());
    }

    private static String simpleNames(Class<?>[] types) {
        return Arrays.stream(types).map(Class::getSimpleName).collect(Collectors.joining(","));
    }
}
