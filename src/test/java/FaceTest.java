import java.lang.reflect.Constructor;
import java.lang.reflect.Field;
import java.lang.reflect.Method;
import java.lang.reflect.Modifier;
import java.util.TreeSet;

/** The public face of the document, and the rules 1 and 5 of LANGUAGE.md about members. */
public final class FaceTest {
    private static final String[] FACE = {
        "int send(int, int)", "int change(int, int)", "int form(int)", "int tell(int, int)",
        "int carry(int, int)", "int step(int)", "int event(int, int)", "int view(int)",
        "int members(int)", "int start(int, int)", "boolean blocked(int)", "int pending(int)",
        "int changes(int)", "int sent(int)", "int delivered(int, int)", "int known(int, int)",
        "int waiting(int, int)"};

    public static void main(String[] args) {
        Class<?> face = GroupViews.class;
        Checks.due("public and final", face.getModifiers(), Modifier.PUBLIC | Modifier.FINAL);
        TreeSet<String> due = new TreeSet<>();
        for (String method : FACE) {
            due.add(method);
        }
        TreeSet<String> found = new TreeSet<>();
        TreeSet<String> publicNames = new TreeSet<>();
        for (Method method : face.getDeclaredMethods()) {
            if (!Modifier.isPrivate(method.getModifiers())) {
                found.add(textOf(method));
                publicNames.add(method.getName());
                Checks.due(method + " is public", method.getModifiers(), Modifier.PUBLIC);
            }
        }
        Checks.due("the public methods are " + found, found.equals(due), true);
        Constructor<?>[] constructors = face.getDeclaredConstructors();
        Checks.due("constructors", constructors.length, 1);
        Checks.due("its parameters", constructors[0].getParameterCount(), 0);
        Checks.due("it is public", constructors[0].getModifiers(), Modifier.PUBLIC);
        lookAtMembers(face, publicNames);
        for (Class<?> inside : face.getDeclaredClasses()) {
            Checks.due(inside + " is static", Modifier.isStatic(inside.getModifiers()), true);
            Checks.due(inside + " is hidden", Modifier.isPublic(inside.getModifiers()), false);
            lookAtMembers(inside, publicNames);
        }
        Checks.end();
    }

    private static String textOf(Method method) {
        StringBuilder text = new StringBuilder();
        text.append(method.getReturnType().getName()).append(' ').append(method.getName());
        String separator = "(";
        for (Class<?> parameter : method.getParameterTypes()) {
            text.append(separator).append(parameter.getName());
            separator = ", ";
        }
        return text.append(')').toString();
    }

    private static void lookAtMembers(Class<?> type, TreeSet<String> publicNames) {
        for (Field field : type.getDeclaredFields()) {
            int modifiers = field.getModifiers();
            Checks.due(field + " is private", Modifier.isPrivate(modifiers), true);
            Checks.due(field + " is not static, or final",
                !Modifier.isStatic(modifiers) || Modifier.isFinal(modifiers), true);
        }
        for (Method method : type.getDeclaredMethods()) {
            if (Modifier.isPrivate(method.getModifiers())) {
                Checks.due(method + " has a public one's name",
                    publicNames.contains(method.getName()), false);
            }
        }
    }
}
