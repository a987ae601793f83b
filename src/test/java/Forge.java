import java.lang.reflect.Field;
import java.lang.reflect.Method;

/**
 * Brings frames under way that no run of calls can bring about, as frames arrive in order and both ends
 * of a link keep in step. It reaches into the program, so it knows how CircuitNet holds its ends.
 */
final class Forge {
    private Forge() {
    }

    /** Whether the program holds its state in the way that is known here, which the document leaves free. */
    static boolean knowsTheProgram() {
        try {
            CircuitNet net = new CircuitNet();
            Object end = end(net, 0, 0);
            number(end, "epoch");
            number(end, "first");
            number(end, "due");
            frame(net, 0, 0, 3, 0, -1, 0, -1);
            waits(net, 0, 0, packet(0, 1, 0, 0));
            return net.frames(0, 0) == 1 && net.row(0, 0) == 1;
        } catch (IllegalStateException unknown) {
            return false;
        }
    }

    /** The packet arrives on a channel of an end, in an INFO that is due and confirms nothing. */
    static void arrive(CircuitNet net, int link, int end, int kind, int channel, int a, int b) {
        Object at = end(net, link, end);
        Nets.loseAll(net, link, end);
        frame(net, link, end, 2, number(at, "epoch"), number(at, "due"), number(at, "first"),
                packet(kind, channel, a, b));
        net.deliver(link, end);
    }

    /** A frame, as it would be sent to an end of a link. */
    static void frame(CircuitNet net, int link, int end, int kind, int epoch, int number, int due,
            int packet) {
        Object wire = value(end(net, link, end), "in");
        call(wire.getClass(), wire, "add", kind, epoch, number, due, packet);
    }

    /** The packet stands last in the row of an end, which does not send on. */
    static void waits(CircuitNet net, int link, int end, int packet) {
        Object row = value(end(net, link, end), "row");
        call(row.getClass(), row, "add", packet);
    }

    static int packet(int kind, int channel, int a, int b) {
        for (Class<?> inside : CircuitNet.class.getDeclaredClasses()) {
            if (inside.getSimpleName().equals("Packet")) {
                return (Integer) call(inside, null, "of", kind, channel, a, b);
            }
        }
        throw new IllegalStateException();
    }

    private static Object end(CircuitNet net, int link, int end) {
        return ((Object[]) value(net, "ends"))[2 * link + end];
    }

    private static int number(Object of, String name) {
        return (Integer) value(of, name);
    }

    private static Object value(Object of, String name) {
        try {
            Field field = of.getClass().getDeclaredField(name);
            field.setAccessible(true);
            return field.get(of);
        } catch (ReflectiveOperationException unknown) {
            throw new IllegalStateException(unknown);
        }
    }

    private static Object call(Class<?> type, Object of, String name, Object... numbers) {
        try {
            Class<?>[] types = new Class<?>[numbers.length];
            java.util.Arrays.fill(types, int.class);
            Method method = type.getDeclaredMethod(name, types);
            method.setAccessible(true);
            return method.invoke(of, numbers);
        } catch (ReflectiveOperationException unknown) {
            throw new IllegalStateException(unknown);
        }
    }
}
