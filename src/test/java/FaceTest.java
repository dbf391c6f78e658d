import java.lang.reflect.Constructor;
import java.lang.reflect.Field;
import java.lang.reflect.Method;
import java.lang.reflect.Modifier;
import java.util.TreeSet;

/** The public face is the document's, with nothing more that can be seen from outside. */
public final class FaceTest {
    private static final String[] FACE = {
        "int NONE",
        "RegionThreads()",
        "int region(int, int)",
        "int waits(int, int, int)",
        "int post(int)",
        "void turn(int)",
        "int run()",
        "int log(int)",
        "boolean cancel(int)",
        "int cleaned(int)",
        "int backed(int)",
        "int shutdown(boolean)",
        "int decision(int, int)",
        "int finished(int)",
        "int close()",
        "int count(int)",
        "int done(int)",
    };

    public static void main(String[] args) {
        Checks checks = new Checks();
        checks.due("the class is final", Modifier.isFinal(RegionThreads.class.getModifiers()), true);
        checks.due("NONE", RegionThreads.NONE, -1);
        TreeSet<String> want = new TreeSet<>(java.util.List.of(FACE));
        checks.due("the face", seen().toString(), want.toString());
        checks.finish();
    }

    private static TreeSet<String> seen() {
        TreeSet<String> seen = new TreeSet<>();
        for (Field field : RegionThreads.class.getDeclaredFields()) {
            if (!Modifier.isPrivate(field.getModifiers())) {
                seen.add(field.getType() + " " + field.getName());
            }
        }
        for (Constructor<?> maker : RegionThreads.class.getDeclaredConstructors()) {
            if (!Modifier.isPrivate(maker.getModifiers())) {
                seen.add("RegionThreads" + types(maker.getParameterTypes()));
            }
        }
        for (Method method : RegionThreads.class.getDeclaredMethods()) {
            if (!Modifier.isPrivate(method.getModifiers())) {
                seen.add(method.getReturnType() + " " + method.getName() + types(method.getParameterTypes()));
            }
        }
        return seen;
    }

    private static String types(Class<?>[] types) {
        StringBuilder text = new StringBuilder("(");
        for (int i = 0; i < types.length; i++) {
            text.append(i == 0 ? "" : ", ").append(types[i]);
        }
        return text.append(")").toString();
    }
}
