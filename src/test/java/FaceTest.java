import java.lang.reflect.Constructor;
import java.lang.reflect.Field;
import java.lang.reflect.Member;
import java.lang.reflect.Method;
import java.lang.reflect.Modifier;
import java.util.ArrayList;
import java.util.List;
import java.util.TreeSet;

/** The public face of the document, and nothing beside it (rules 1 and 5 of LANGUAGE.md). */
public final class FaceTest {
    private static final String[] FACE = {
        "NONE int = -1",
        "CONSTANT int = 6",
        "TracedCode()",
        "int set(int, int) IllegalArgumentException IllegalStateException",
        "int copy(int, int) IllegalArgumentException IllegalStateException",
        "int add(int, int, int) IllegalArgumentException IllegalStateException",
        "int out(int) IllegalArgumentException IllegalStateException",
        "int jump(int, int) IllegalArgumentException IllegalStateException",
        "int name(int, int) IllegalArgumentException IllegalStateException",
        "void clear()",
        "int shorten()",
        "int kept() IllegalStateException",
        "int part(int, int) IllegalStateException IndexOutOfBoundsException",
        "int where(int, int) IllegalStateException IndexOutOfBoundsException",
        "int carriers(int, int) IllegalStateException IndexOutOfBoundsException",
        "void restart() IllegalStateException",
        "int step() IllegalStateException",
        "int line() IllegalStateException",
        "int register(int, boolean) IllegalStateException IndexOutOfBoundsException",
        "int output(int, boolean) IllegalStateException IndexOutOfBoundsException",
        "int value(int) IllegalStateException IndexOutOfBoundsException",
        "int read(int) IllegalStateException IndexOutOfBoundsException NoSuchElementException",
    };

    public static void main(String[] args) throws IllegalAccessException {
        Checks.same("public", true, Modifier.isPublic(TracedCode.class.getModifiers()));
        Checks.same("final", true, Modifier.isFinal(TracedCode.class.getModifiers()));
        Checks.same("the face", new TreeSet<>(List.of(FACE)), face());
        privateNames();
        classesInside();
        Checks.finish();
    }

    private static boolean isHidden(Member member) {
        return Modifier.isPrivate(member.getModifiers()) || member.isSynthetic();
    }

    private static TreeSet<String> face() throws IllegalAccessException {
        TreeSet<String> face = new TreeSet<>();
        for (Field field : TracedCode.class.getDeclaredFields()) {
            if (!isHidden(field)) {
                face.add(field.getName() + " " + field.getType().getSimpleName() + " = " + field.get(null));
            }
        }
        for (Constructor<?> made : TracedCode.class.getDeclaredConstructors()) {
            if (!isHidden(made)) {
                face.add("TracedCode" + list(made.getParameterTypes()));
            }
        }
        for (Method method : TracedCode.class.getDeclaredMethods()) {
            if (!isHidden(method)) {
                StringBuilder text = new StringBuilder(method.getReturnType().getSimpleName());
                text.append(' ').append(method.getName()).append(list(method.getParameterTypes()));
                for (Class<?> thrown : method.getExceptionTypes()) {
                    text.append(' ').append(thrown.getSimpleName());
                }
                face.add(text.toString());
                Checks.same("public " + method.getName(), true, Modifier.isPublic(method.getModifiers()));
            }
        }
        return face;
    }

    private static String list(Class<?>[] types) {
        List<String> names = new ArrayList<>();
        for (Class<?> type : types) {
            names.add(type.getSimpleName());
        }
        return "(" + String.join(", ", names) + ")";
    }

    private static void privateNames() {
        TreeSet<String> names = new TreeSet<>();
        for (Method method : TracedCode.class.getMethods()) {
            names.add(method.getName());
        }
        List<Method> hidden = new ArrayList<>();
        hidden.addAll(List.of(TracedCode.class.getDeclaredMethods()));
        for (Class<?> inside : TracedCode.class.getDeclaredClasses()) {
            hidden.addAll(List.of(inside.getDeclaredMethods()));
        }
        for (Method method : hidden) {
            if (!Modifier.isPublic(method.getModifiers())) {
                Checks.same("the name " + method.getName() + " is a public one's", false, names.contains(method.getName()));
            }
        }
    }

    private static void classesInside() {
        for (Class<?> inside : TracedCode.class.getDeclaredClasses()) {
            Checks.same("private " + inside, true, Modifier.isPrivate(inside.getModifiers()));
            Checks.same("static " + inside, true, Modifier.isStatic(inside.getModifiers()));
            for (Field field : inside.getDeclaredFields()) {
                boolean loose = Modifier.isStatic(field.getModifiers()) && !Modifier.isFinal(field.getModifiers());
                Checks.same("a static field that is not final: " + field, false, loose);
            }
        }
    }
}
