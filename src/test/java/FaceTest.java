import java.lang.reflect.Constructor;
import java.lang.reflect.Field;
import java.lang.reflect.Method;
import java.lang.reflect.Modifier;
import java.util.Set;
import java.util.TreeSet;

/** The class has the document's face and nothing more that can be seen. */
public final class FaceTest {
    private static final String[] METHODS = {
        "int call(int,int)", "boolean answer(int,int)", "boolean clear(int,int)",
        "boolean reset(int,int)", "int send(int,int,int)", "int read(int,int)",
        "boolean deliver(int,int)", "boolean lose(int,int)", "boolean tick(int)",
        "int state(int,int)", "int peer(int,int)", "int unread(int,int)", "int frames(int,int)",
        "int frame(int,int,int,int)", "int row(int,int)", "int epoch(int,int)",
        "boolean up(int,int)", "int busy(int,int)"};

    public static void main(String[] args) {
        int modifiers = CircuitNet.class.getModifiers();
        Check.due("public", Modifier.isPublic(modifiers), true);
        Check.due("final", Modifier.isFinal(modifiers), true);
        Check.due("NONE", CircuitNet.NONE, -1);
        Check.due("FULL", CircuitNet.FULL, -2);
        methods();
        fields();
        constructors();
        Check.finish();
    }

    private static void methods() {
        Set<String> want = new TreeSet<>(Set.of(METHODS));
        Set<String> got = new TreeSet<>();
        Set<String> names = new TreeSet<>();
        for (String text : METHODS) {
            names.add(text.substring(text.indexOf(' ') + 1, text.indexOf('(')));
        }
        for (Method m : CircuitNet.class.getDeclaredMethods()) {
            if (!Modifier.isPrivate(m.getModifiers()) && !m.isSynthetic()) {
                got.add(form(m));
            } else {
                Check.due("private " + m.getName() + " bears a public name",
                        names.contains(m.getName()), false);
            }
        }
        Check.due("methods are " + got + ", which", got.equals(want), true);
    }

    private static String form(Method m) {
        StringBuilder text = new StringBuilder(m.getReturnType().getName());
        text.append(' ').append(m.getName()).append('(');
        for (Class<?> type : m.getParameterTypes()) {
            text.append(text.charAt(text.length() - 1) == '(' ? "" : ",").append(type.getName());
        }
        return text.append(')').toString();
    }

    private static void fields() {
        for (Field f : CircuitNet.class.getDeclaredFields()) {
            int m = f.getModifiers();
            boolean constant = f.getName().equals("NONE") || f.getName().equals("FULL");
            Check.due(f.getName() + " is private", Modifier.isPrivate(m), !constant);
            Check.due(f.getName() + " is static and not final",
                    Modifier.isStatic(m) && !Modifier.isFinal(m), false);
        }
    }

    private static void constructors() {
        Constructor<?>[] all = CircuitNet.class.getDeclaredConstructors();
        Check.due("constructors", all.length, 1);
        Check.due("its parameters", all[0].getParameterCount(), 0);
        Check.due("it is public", Modifier.isPublic(all[0].getModifiers()), true);
    }
}
