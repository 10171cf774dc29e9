import java.lang.reflect.Array;
import java.lang.reflect.Constructor;
import java.lang.reflect.Field;

/** Changes a table behind its back, to bring about what the document speaks of and no calls can bring about. */
final class Behind {
    private Behind() { }

    private static Field open(Object of, String name) {
        try {
            Field f = of.getClass().getDeclaredField(name);
            f.setAccessible(true);
            return f;
        } catch (ReflectiveOperationException e) {
            throw new IllegalStateException(e);
        }
    }

    static Object get(Object of, String name) {
        try {
            return open(of, name).get(of);
        } catch (ReflectiveOperationException e) {
            throw new IllegalStateException(e);
        }
    }

    static void set(Object of, String name, Object value) {
        try {
            open(of, name).set(of, value);
        } catch (ReflectiveOperationException e) {
            throw new IllegalStateException(e);
        }
    }

    static Object replica(Net net, int replica) {
        return Array.get(get(net.table.under, "replicas"), replica);
    }

    /** An entry is a request's place in the order of all request calls, from 1 on; 0 is a NOTHING. */
    static void putEntry(Net net, int replica, int slot, int entry) {
        ((int[]) get(get(replica(net, replica), "log"), "entries"))[slot - 1] = entry;
    }

    static void cutLog(Net net, int replica, int length) {
        set(get(replica(net, replica), "log"), "length", length);
    }

    /** The message in the air that has this number. */
    static Object message(Net net, int number) {
        return Array.get(get(get(net.table.under, "air"), "messages"), net.table.air().indexOf(number));
    }

    static void setLastNormal(Net net, int replica, int lead, int session) {
        Object r = replica(net, replica);
        try {
            Constructor<?> view = get(r, "lastNormal").getClass().getDeclaredConstructor(int.class, int.class);
            view.setAccessible(true);
            set(r, "lastNormal", view.newInstance(lead, session));
        } catch (ReflectiveOperationException e) {
            throw new IllegalStateException(e);
        }
    }
}
