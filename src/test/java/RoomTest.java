import java.lang.management.ManagementFactory;
import java.lang.reflect.Array;
import java.lang.reflect.Field;
import java.lang.reflect.Modifier;
import java.util.Collections;
import java.util.IdentityHashMap;
import java.util.Set;

/** What an object of the class takes: its rows are made once, and no call makes more. */
public final class RoomTest {
    private static final long MAX_OBJECTS = 2_000;
    private static final long MAX_CELLS = 40_000;
    private static final long MAX_BYTES = 100_000;

    private static long cells = 0;

    private RoomTest() {
    }

    public static void main(String[] args) throws IllegalAccessException {
        StepEditor editor = new StepEditor();
        Set<Object> objects = Collections.newSetFromMap(new IdentityHashMap<>());
        count(editor, objects);
        System.out.println(objects.size() + " objects and arrays, " + cells + " fields and elements");
        long bytes = bytesOfCalls(editor);
        System.out.println(bytes + " bytes in all calls");
        if (objects.size() > MAX_OBJECTS || cells > MAX_CELLS || bytes > MAX_BYTES) {
            System.out.println("too much room");
            System.exit(1);
        }
    }

    private static void count(Object object, Set<Object> seen) throws IllegalAccessException {
        if (object == null || !seen.add(object)) {
            return;
        }
        if (object.getClass().isArray()) {
            int length = Array.getLength(object);
            cells += length;
            if (object instanceof Object[] elements) {
                for (Object element : elements) {
                    count(element, seen);
                }
            }
            return;
        }
        for (Field field : object.getClass().getDeclaredFields()) {
            if (!Modifier.isStatic(field.getModifiers())) {
                cells++;
                if (!field.getType().isPrimitive()) {
                    field.setAccessible(true);
                    count(field.get(object), seen);
                }
            }
        }
    }

    /** The bytes that some 500 calls make, none of which throws. */
    private static long bytesOfCalls(StepEditor editor) {
        com.sun.management.ThreadMXBean threads =
            (com.sun.management.ThreadMXBean) ManagementFactory.getThreadMXBean();
        long before = threads.getCurrentThreadAllocatedBytes();
        for (int round = 0; round < 10; round++) {
            int client = round % 3;
            editor.receive(client);
            for (int i = 0; i < 2; i++) {
                editor.copy(client, 0, editor.size(client));
                editor.copy((client + 1) % 3, 0, 2);
                editor.type(client, 1, i);
                editor.mark(client, 0, editor.size(client), 0, true);
                editor.paste((client + 1) % 3, 0);
                editor.takeBack((client + 1) % 3);
                for (int look = 0; look < 3; look++) {
                    editor.around(look, 1);
                    editor.token(look, 0);
                    editor.isBuilt();
                }
                editor.paste(client, 0);
                editor.takeBack(client);
            }
            editor.comment(0, 2);
            editor.commentAt(round);
            editor.type((client + 1) % 3, 1, 9);
            editor.send(client);
            editor.receive((client + 1) % 3);
            editor.takeBack((client + 1) % 3);
            editor.revert(client, 0);
            editor.takeBack(client);
        }
        return threads.getCurrentThreadAllocatedBytes() - before;
    }
}
