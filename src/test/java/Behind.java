import java.lang.reflect.Array;
import java.lang.reflect.Constructor;
import java.lang.reflect.Field;

/** Changes a table behind its back, to bring about what the document speaks of and no calls can bring about. */
final class Behind {
    private static final String[][] LAYOUT = {
        {"", "replicas", "air", "accepted"},
        {"Replica", "log", "held", "status", "lastNormal", "base", "point", "synced"},
        {"Log", "entries", "length"}, {"Held", "slots"}, {"Air", "messages"}, {"Message", "position", "answer", "to"},
        {"AcceptedOnes", "requests", "views", "slots", "answers", "kept", "next", "total"}};

    private Behind() { }

    /** Whether the class is laid out as it was when this was written; if not, no promise is broken by that. */
    static boolean fits() {
        try {
            for (String[] part : LAYOUT) {
                Class<?> c = Class.forName(part[0].isEmpty() ? "OrderedTable" : "OrderedTable$" + part[0]);
                for (int i = 1; i < part.length; i++) {
                    c.getDeclaredField(part[i]);
                }
            }
            return true;
        } catch (ReflectiveOperationException e) {
            System.out.println("PASSED OVER: the class is laid out in another way (" + e.getMessage() + ")");
            return false;
        }
    }

    private static Field open(Object of, String name) {
        try {
            Field f = of.getClass().getDeclaredField(name);
            f.setAccessible(true);
            return f;
        } catch (ReflectiveOperationException e) {
            throw new IllegalStateException(e);
        }
    }

    static Object get(Object of, String name) {
        try {
            return open(of, name).get(of);
        } catch (ReflectiveOperationException e) {
            throw new IllegalStateException(e);
        }
    }

    static void set(Object of, String name, Object value) {
        try {
            open(of, name).set(of, value);
        } catch (ReflectiveOperationException e) {
            throw new IllegalStateException(e);
        }
    }

    static Object replica(Net net, int replica) {
        return Array.get(get(net.table.under, "replicas"), replica);
    }

    /** An entry is a request's place in the order of all request calls, from 1 on; 0 is a NOTHING. */
    static void putEntry(Net net, int replica, int slot, int entry) {
        ((int[]) get(get(replica(net, replica), "log"), "entries"))[slot - 1] = entry;
    }

    static void cutLog(Net net, int replica, int length) {
        set(get(replica(net, replica), "log"), "length", length);
    }

    /** The message in the air that has this number. */
    static Object message(Net net, int number) {
        return Array.get(get(get(net.table.under, "air"), "messages"), net.table.air().indexOf(number));
    }

    static void setLastNormal(Net net, int replica, int lead, int session) {
        Object r = replica(net, replica);
        try {
            Constructor<?> view = get(r, "lastNormal").getClass().getDeclaredConstructor(int.class, int.class);
            view.setAccessible(true);
            set(r, "lastNormal", view.newInstance(lead, session));
        } catch (ReflectiveOperationException e) {
            throw new IllegalStateException(e);
        }
    }
}
