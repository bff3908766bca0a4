import java.lang.reflect.Constructor;
import java.lang.reflect.Field;
import java.lang.reflect.Method;
import java.lang.reflect.Modifier;
import java.util.Arrays;
import java.util.TreeSet;

/** The public face, and rule 1 of LANGUAGE.md. */
public final class FaceTest {
    private static final String[] FACE = {
        "int append(int, int)", "int build(int)", "int cache(boolean)", "int check()", "int create(int, int, char)",
        "int find(int, char)", "int mount()", "int peek(int)", "int read(int, int)", "int resolve(int)",
        "int stat(int, int)", "void link(int, int, char)", "void poke(int, int)", "void seal()",
        "void unlink(int, char)"};

    public static void main(String[] args) {
        Class<?> face = PackedImage.class;
        Checks.holds("public", Modifier.isPublic(face.getModifiers()));
        Checks.holds("final", Modifier.isFinal(face.getModifiers()));
        TreeSet<String> seen = new TreeSet<>();
        TreeSet<String> names = new TreeSet<>();
        for (Method method : face.getDeclaredMethods()) {
            if (Modifier.isPublic(method.getModifiers())) {
                seen.add(told(method));
                names.add(method.getName());
            }
        }
        Checks.sameText("the public methods", seen.toString(), new TreeSet<>(Arrays.asList(FACE)).toString());
        for (Method method : face.getDeclaredMethods()) {
            int modifiers = method.getModifiers();
            Checks.holds(method + " is public or private",
                    Modifier.isPublic(modifiers) || Modifier.isPrivate(modifiers));
            Checks.holds(method + " has a name of its own",
                    Modifier.isPublic(modifiers) || !names.contains(method.getName()));
        }
        for (Field field : face.getDeclaredFields()) {
            Checks.holds(field + " is private", Modifier.isPrivate(field.getModifiers()));
        }
        for (Constructor<?> constructor : face.getDeclaredConstructors()) {
            Checks.same("parameters of the constructor", constructor.getParameterCount(), 0);
        }
        for (Class<?> inside : face.getDeclaredClasses()) {
            Checks.holds(inside + " is private or package-visible",
                    !Modifier.isPublic(inside.getModifiers()) && !Modifier.isProtected(inside.getModifiers()));
            for (Field field : inside.getDeclaredFields()) {
                Checks.holds(field + " is no static state",
                        !Modifier.isStatic(field.getModifiers()) || Modifier.isFinal(field.getModifiers()));
            }
        }
        Checks.end();
    }

    private static String told(Method method) {
        StringBuilder text = new StringBuilder();
        for (Class<?> type : method.getParameterTypes()) {
            text.append(text.length() == 0 ? "" : ", ").append(type);
        }
        return method.getReturnType() + " " + method.getName() + "(" + text + ")";
    }
}
