import java.lang.reflect.Constructor;
import java.lang.reflect.Field;
import java.lang.reflect.Method;
import java.lang.reflect.Modifier;
import java.util.Set;
import java.util.TreeSet;

/** The public face, by the document and LANGUAGE.md rule 1. */
public final class FaceTest {
    private static final Set<String> FACE = Set.of(
        "input(int, int)", "output(int)", "step(int)", "pinch(int, int)", "learn(int)", "shed(int)",
        "load(int, boolean)", "isOn(int)", "bulb(int, boolean)", "rain(int)", "window(int, int)", "crash()",
        "memory(int, int, int)", "trailer(boolean)", "state(int)");

    public static void main(String[] args) {
        Check.sentence("The public face");
        Class<?> type = BodyRows2.class;
        Check.holds("public final", Modifier.isPublic(type.getModifiers()) && Modifier.isFinal(type.getModifiers()));
        Constructor<?>[] makers = type.getDeclaredConstructors();
        Check.due("constructors", makers.length, 1);
        Check.holds("public constructor", Modifier.isPublic(makers[0].getModifiers()));
        Check.due("its parameters", makers[0].getParameterCount(), 0);
        checkMethods(type);
        for (Field field : type.getDeclaredFields()) {
            Check.holds("private " + field.getName(), Modifier.isPrivate(field.getModifiers()));
            Check.holds("static only if final: " + field.getName(),
                !Modifier.isStatic(field.getModifiers()) || Modifier.isFinal(field.getModifiers()));
        }
        for (Class<?> inside : type.getDeclaredClasses()) {
            Check.holds("static " + inside.getName(), Modifier.isStatic(inside.getModifiers()));
        }
        Check.end();
    }

    private static void checkMethods(Class<?> type) {
        Set<String> seen = new TreeSet<>();
        Set<String> names = new TreeSet<>();
        for (String text : FACE) {
            names.add(text.substring(0, text.indexOf('(')));
        }
        for (Method method : type.getDeclaredMethods()) {
            if (Modifier.isPrivate(method.getModifiers())) {
                Check.holds("a private name of its own: " + method.getName(), !names.contains(method.getName()));
            } else {
                seen.add(describe(method));
                Check.holds("int and no static: " + method, method.getReturnType() == int.class
                    && Modifier.isPublic(method.getModifiers()) && !Modifier.isStatic(method.getModifiers()));
                Class<?>[] thrown = method.getExceptionTypes();
                Check.holds("output alone tells what it throws: " + method, method.getName().equals("output")
                    ? thrown.length == 1 && thrown[0] == IndexOutOfBoundsException.class : thrown.length == 0);
            }
        }
        Check.holds("the face is " + seen, seen.equals(FACE));
    }

    private static String describe(Method method) {
        StringBuilder text = new StringBuilder(method.getName()).append('(');
        for (Class<?> type : method.getParameterTypes()) {
            text.append(text.charAt(text.length() - 1) == '(' ? "" : ", ").append(type.getName());
        }
        return text.append(')').toString();
    }
}
