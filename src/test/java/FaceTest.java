import java.lang.reflect.Constructor;
import java.lang.reflect.Field;
import java.lang.reflect.Method;
import java.lang.reflect.Modifier;
import java.util.Arrays;
import java.util.List;
import java.util.Set;
import java.util.TreeSet;

/** The class has the document's face and nothing more, and no static state. */
public final class FaceTest {
    private static final List<String> FACE = List.of(
        "int build(int,int)IllegalArgumentException,IllegalStateException",
        "int air(int,int,int)IndexOutOfBoundsException,IllegalArgumentException",
        "int make(int,int)IndexOutOfBoundsException,IllegalStateException",
        "int carry(int,int,int)IndexOutOfBoundsException,IllegalStateException",
        "int infect(int,int)IndexOutOfBoundsException,IllegalArgumentException,IllegalStateException",
        "int sell(int)IndexOutOfBoundsException,IllegalStateException",
        "int hire(int,int)IndexOutOfBoundsException,IllegalArgumentException,IllegalStateException",
        "int setRota(int,int,int)IndexOutOfBoundsException,IllegalArgumentException",
        "int wheel(int,int)IndexOutOfBoundsException",
        "int cellar(int,int)IndexOutOfBoundsException",
        "int at(int,int)IndexOutOfBoundsException",
        "int monk(int,int)IndexOutOfBoundsException",
        "int count(int)IndexOutOfBoundsException",
        "int pass(int)IllegalArgumentException",
        "int best(int)IndexOutOfBoundsException",
        "int foresee(int,int)IllegalArgumentException,IndexOutOfBoundsException",
        "int advise(int,int)IndexOutOfBoundsException,IllegalArgumentException",
        "double mean()",
        "long digest()");

    public static void main(String[] args) {
        methods();
        constructorsAndFields();
        classesInside();
        Check.end("FaceTest");
    }

    private static void methods() {
        Set<String> open = new TreeSet<>();
        Set<String> openNames = new TreeSet<>();
        for (Method method : CheeseRota.class.getDeclaredMethods()) {
            if (!Modifier.isPrivate(method.getModifiers())) {
                open.add(told(method));
                openNames.add(method.getName());
                Check.isTrue(method + " is public", Modifier.isPublic(method.getModifiers()));
                Check.isTrue(method + " is not static", !Modifier.isStatic(method.getModifiers()));
            }
        }
        Check.isTrue("the methods are the face's: " + open, open.equals(new TreeSet<>(FACE)));
        for (Method method : CheeseRota.class.getDeclaredMethods()) {
            if (Modifier.isPrivate(method.getModifiers())) {
                Check.isTrue(method + " has a name of its own", !openNames.contains(method.getName()));
            }
        }
    }

    private static String told(Method method) {
        return method.getReturnType().getSimpleName() + " " + method.getName() + "("
            + names(method.getParameterTypes()) + ")" + names(method.getExceptionTypes());
    }

    private static String names(Class<?>[] types) {
        return String.join(",", Arrays.stream(types).map(Class::getSimpleName).toList());
    }

    private static void constructorsAndFields() {
        Check.due("modifiers", CheeseRota.class.getModifiers(), Modifier.PUBLIC | Modifier.FINAL);
        Constructor<?>[] constructors = CheeseRota.class.getDeclaredConstructors();
        Check.due("constructors", constructors.length, 1);
        Check.due("constructor's modifiers", constructors[0].getModifiers(), Modifier.PUBLIC);
        Check.due("constructor's parameters", constructors[0].getParameterCount(), 0);
        for (Field field : CheeseRota.class.getDeclaredFields()) {
            Check.isTrue(field + " is private", Modifier.isPrivate(field.getModifiers()));
            fieldIsNoStaticState(field);
        }
    }

    private static void fieldIsNoStaticState(Field field) {
        boolean isStatic = Modifier.isStatic(field.getModifiers());
        Check.isTrue(field + " is final, if static", !isStatic || Modifier.isFinal(field.getModifiers()));
    }

    private static void classesInside() {
        for (Class<?> inside : CheeseRota.class.getDeclaredClasses()) {
            int modifiers = inside.getModifiers();
            Check.isTrue(inside + " is static", Modifier.isStatic(modifiers));
            Check.isTrue(inside + " is hidden", !Modifier.isPublic(modifiers) && !Modifier.isProtected(modifiers));
            for (Field field : inside.getDeclaredFields()) {
                fieldIsNoStaticState(field);
            }
        }
    }
}
