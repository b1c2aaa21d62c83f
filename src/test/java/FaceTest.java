import java.lang.reflect.Constructor;
import java.lang.reflect.Field;
import java.lang.reflect.Method;
import java.lang.reflect.Modifier;
import java.util.ArrayList;
import java.util.Arrays;
import java.util.Collections;
import java.util.HashSet;
import java.util.List;
import java.util.Set;

/** The class has the document's public face and no other member that can be seen from outside. */
public final class FaceTest {
    private static final String ARGUMENT = "IllegalArgumentException";
    private static final String STATE = "IllegalStateException";
    private static final String INDEX = "IndexOutOfBoundsException";
    private static int wrong = 0;

    public static void main(String[] args) {
        due("FiguredBass is public and final", Modifier.PUBLIC | Modifier.FINAL,
                FiguredBass.class.getModifiers());
        due("constructors", "[public FiguredBass()]",
                Arrays.toString(FiguredBass.class.getDeclaredConstructors()));
        due("methods", expectedMethods(), publicMethods());
        lookForOtherMembers();
        lookAtClassesInside();
        System.out.println(wrong == 0 ? "the face is as due" : wrong + " faults of the face");
        if (wrong != 0) {
            System.exit(1);
        }
    }

    private static void due(String what, Object want, Object got) {
        if (!want.equals(got)) {
            wrong++;
            System.out.println(what + ": " + got + ", due is " + want);
        }
    }

    private static List<String> expectedMethods() {
        List<String> all = new ArrayList<>(List.of(
                "void key(int, boolean) " + ARGUMENT,
                "void length(int) " + ARGUMENT,
                "int bass(int, int, int, int) " + ARGUMENT,
                "int figure(int, int, int) " + ARGUMENT + " " + STATE,
                "int spell(int, int) " + ARGUMENT + " " + STATE + " " + INDEX,
                "int places(int) " + ARGUMENT + " " + STATE,
                "int place(int, int, int) " + ARGUMENT + " " + STATE + " " + INDEX,
                "int realise() " + STATE,
                "int note(int, int) " + ARGUMENT + " " + STATE,
                "int cost(int) " + ARGUMENT + " " + STATE,
                "void pupil(int, int, int) " + ARGUMENT,
                "int faults() " + STATE,
                "int fault(int, int) " + INDEX + " " + ARGUMENT));
        Collections.sort(all);
        return all;
    }

    private static List<String> publicMethods() {
        List<String> all = new ArrayList<>();
        for (Method method : FiguredBass.class.getDeclaredMethods()) {
            if (!Modifier.isPrivate(method.getModifiers()) && !method.isSynthetic()) {
                all.add(describe(method));
            }
        }
        Collections.sort(all);
        return all;
    }

    private static String describe(Method method) {
        List<String> parameters = new ArrayList<>();
        for (Class<?> type : method.getParameterTypes()) {
            parameters.add(type.getSimpleName());
        }
        StringBuilder text = new StringBuilder();
        text.append(method.getReturnType().getSimpleName()).append(' ').append(method.getName());
        text.append('(').append(String.join(", ", parameters)).append(')');
        for (Class<?> type : method.getExceptionTypes()) {
            text.append(' ').append(type.getSimpleName());
        }
        return text.toString();
    }

    private static void lookForOtherMembers() {
        Set<String> publicNames = new HashSet<>();
        for (Method method : FiguredBass.class.getMethods()) {
            if (method.getDeclaringClass() == FiguredBass.class) {
                publicNames.add(method.getName());
            }
        }
        for (Method method : FiguredBass.class.getDeclaredMethods()) {
            if (Modifier.isPrivate(method.getModifiers())) {
                due("private " + method.getName() + " has a public name", false,
                        publicNames.contains(method.getName()));
            }
        }
        for (Field field : FiguredBass.class.getDeclaredFields()) {
            due("field " + field.getName() + " is private", true,
                    Modifier.isPrivate(field.getModifiers()));
            due("static field " + field.getName() + " is final", true,
                    !Modifier.isStatic(field.getModifiers())
                            || Modifier.isFinal(field.getModifiers()));
        }
    }

    private static void lookAtClassesInside() {
        for (Class<?> inside : FiguredBass.class.getDeclaredClasses()) {
            int modifiers = inside.getModifiers();
            due(inside.getName() + " is static and not public", true,
                    Modifier.isStatic(modifiers) && !Modifier.isPublic(modifiers)
                            && !Modifier.isProtected(modifiers));
            for (Constructor<?> constructor : inside.getDeclaredConstructors()) {
                due(inside.getName() + " throws in its constructor", 0,
                        constructor.getExceptionTypes().length);
            }
        }
    }
}
