import java.lang.reflect.Constructor;
import java.lang.reflect.Executable;
import java.lang.reflect.Field;
import java.lang.reflect.Method;
import java.lang.reflect.Modifier;
import java.util.Arrays;
import java.util.Set;
import java.util.TreeSet;
import java.util.stream.Collectors;

/** The public face of the document, and rule 1 of LANGUAGE.md. */
public final class FaceTest {
    private static final String[] FACE = {
        "public static final int NONE",
        "public VeiledFiles()",
        "public void start(int, int)",
        "public int create(long)",
        "public int find(long)",
        "public boolean remove(int)",
        "public int size(int)",
        "public void write(int, int, int) throws IndexOutOfBoundsException, IllegalStateException",
        "public int read(int, int) throws IndexOutOfBoundsException, IllegalStateException",
        "public void idle() throws IllegalStateException",
        "public int sealed(int, int, int) throws IndexOutOfBoundsException",
        "public boolean alter(int, int, int, int)",
        "public int counter(int, int)",
        "public int trace(int, int)",
        "public int stash(int)",
        "public int state(int)",
    };

    public static void main(String[] args) {
        Due due = new Due();
        due.is("NONE", VeiledFiles.NONE, -1);
        due.is("the modifiers of the class",
                Modifier.toString(VeiledFiles.class.getModifiers()), "public final");
        Set<String> want = new TreeSet<>(Arrays.asList(FACE));
        due.is("the face", String.join("\n", visibleMembers()), String.join("\n", want));
        for (Class<?> inside : VeiledFiles.class.getDeclaredClasses()) {
            due.is(inside.getName() + " is static", Modifier.isStatic(inside.getModifiers()), true);
        }
        due.is("names that a private method shares with the face",
                privateNamesOfTheFace().toString(), "[]");
        due.end();
    }

    private static Set<String> visibleMembers() {
        Set<String> members = new TreeSet<>();
        for (Field field : VeiledFiles.class.getDeclaredFields()) {
            if (isVisible(field.getModifiers())) {
                members.add(Modifier.toString(field.getModifiers()) + " "
                        + field.getType().getSimpleName() + " " + field.getName());
            }
        }
        for (Constructor<?> maker : VeiledFiles.class.getDeclaredConstructors()) {
            if (isVisible(maker.getModifiers())) {
                members.add(Modifier.toString(maker.getModifiers()) + " VeiledFiles" + rest(maker));
            }
        }
        for (Method method : VeiledFiles.class.getDeclaredMethods()) {
            if (isVisible(method.getModifiers())) {
                members.add(Modifier.toString(method.getModifiers()) + " "
                        + method.getReturnType().getSimpleName() + " " + method.getName()
                        + rest(method));
            }
        }
        return members;
    }

    private static Set<String> privateNamesOfTheFace() {
        Set<String> shared = new TreeSet<>();
        for (Method method : VeiledFiles.class.getDeclaredMethods()) {
            if (!isVisible(method.getModifiers()) && isNameOfTheFace(method.getName())) {
                shared.add(method.getName());
            }
        }
        for (Class<?> inside : VeiledFiles.class.getDeclaredClasses()) {
            for (Method method : inside.getDeclaredMethods()) {
                if (isNameOfTheFace(method.getName())) {
                    shared.add(method.getName());
                }
            }
        }
        return shared;
    }

    private static boolean isNameOfTheFace(String name) {
        return Arrays.stream(FACE).anyMatch(member -> member.contains(" " + name + "("));
    }

    private static boolean isVisible(int modifiers) {
        return !Modifier.isPrivate(modifiers);
    }

    private static String rest(Executable member) {
        String thrown = namesOf(member.getExceptionTypes());
        return "(" + namesOf(member.getParameterTypes()) + ")"
                + (thrown.isEmpty() ? "" : " throws " + thrown);
    }

    private static String namesOf(Class<?>[] types) {
        return Arrays.stream(types).map(Class::getSimpleName).collect(Collectors.joining(", "));
    }
}
