import java.lang.reflect.Constructor;
import java.lang.reflect.Field;
import java.lang.reflect.Method;
import java.lang.reflect.Modifier;
import java.util.Arrays;
import java.util.HashSet;
import java.util.Set;
import java.util.TreeSet;

/** The public face of the document, and rules 1 and 5 of LANGUAGE.md. */
public final class FaceTest {
    private static final String STATE = " throws IllegalStateException";
    private static final String ARGUMENT = " throws IllegalArgumentException";
    private static final String INDEX = " throws IndexOutOfBoundsException";
    private static final String[] FACE = {
        "int feed int int int int int" + STATE,
        "int trim int" + ARGUMENT,
        "int teach",
        "int errorAt",
        "int count int" + INDEX,
        "int ground int int" + INDEX,
        "int fisher int int" + INDEX,
        "int pact int int" + INDEX,
        "int cheat int boolean" + INDEX,
        "int mend int" + INDEX + " IllegalStateException",
        "int lot int" + INDEX,
        "int took int int" + INDEX,
        "int blame int" + INDEX,
        "int gap",
        "int pass int" + ARGUMENT,
        "int foresee int int" + ARGUMENT + " IndexOutOfBoundsException",
        "int pays int int" + INDEX + " IllegalArgumentException",
        "int empty int" + INDEX,
        "int advise int int" + INDEX + " IllegalArgumentException",
        "double mean",
        "long digest",
    };

    public static void main(String[] args) {
        Class<TideLots> face = TideLots.class;
        Due.isTrue("public and final", Modifier.isPublic(face.getModifiers()) && Modifier.isFinal(face.getModifiers()));
        methodsAreThoseOfTheDocument(face);
        constructorIsTheOneOfTheDocument(face);
        for (Class<?> inside : face.getDeclaredClasses()) {
            int modifiers = inside.getModifiers();
            Due.isTrue(inside + " is static", Modifier.isStatic(modifiers));
            Due.isTrue(inside + " is not seen", !Modifier.isPublic(modifiers) && !Modifier.isProtected(modifiers));
            staticFieldsAreFinal(inside);
        }
        for (Field field : face.getDeclaredFields()) {
            Due.isTrue(field + " is private", field.isSynthetic() || Modifier.isPrivate(field.getModifiers()));
        }
        staticFieldsAreFinal(face);
        Due.end("FaceTest");
    }

    private static void methodsAreThoseOfTheDocument(Class<?> face) {
        Set<String> found = new TreeSet<>();
        Set<String> publicNames = new HashSet<>();
        for (Method method : face.getDeclaredMethods()) {
            if (!Modifier.isPrivate(method.getModifiers())) {
                found.add(describe(method));
                publicNames.add(method.getName());
                Due.isTrue(method + " is public", Modifier.isPublic(method.getModifiers()));
                Due.isTrue(method + " is no static one", !Modifier.isStatic(method.getModifiers()));
            }
        }
        Set<String> due = new TreeSet<>(Arrays.asList(FACE));
        Due.isTrue("the face " + found, found.equals(due));
        for (Method method : face.getDeclaredMethods()) {
            if (Modifier.isPrivate(method.getModifiers())) {
                Due.isTrue("a name of its own for " + method, !publicNames.contains(method.getName()));
            }
        }
    }

    private static void constructorIsTheOneOfTheDocument(Class<?> face) {
        Constructor<?>[] constructors = face.getDeclaredConstructors();
        Due.same("constructors", constructors.length, 1);
        Due.same("parameters of the constructor", constructors[0].getParameterCount(), 0);
        Due.isTrue("a public constructor", Modifier.isPublic(constructors[0].getModifiers()));
    }

    private static void staticFieldsAreFinal(Class<?> owner) {
        for (Field field : owner.getDeclaredFields()) {
            int modifiers = field.getModifiers();
            Due.isTrue(field + " is final", !Modifier.isStatic(modifiers) || Modifier.isFinal(modifiers));
        }
    }

    private static String describe(Method method) {
        StringBuilder text = new StringBuilder();
        text.append(method.getReturnType().getSimpleName()).append(' ').append(method.getName());
        for (Class<?> type : method.getParameterTypes()) {
            text.append(' ').append(type.getSimpleName());
        }
        Class<?>[] thrown = method.getExceptionTypes();
        for (int i = 0; i < thrown.length; i++) {
            text.append(i == 0 ? " throws " : " ").append(thrown[i].getSimpleName());
        }
        return text.toString();
    }
}
