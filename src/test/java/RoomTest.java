import java.lang.reflect.Array;
import java.lang.reflect.Field;
import java.lang.reflect.Modifier;
import java.util.ArrayDeque;
import java.util.Collections;
import java.util.Deque;
import java.util.IdentityHashMap;
import java.util.Set;

/**
 * The room that an object takes, in objects and arrays and in their fields and elements: a run can
 * make many objects, and no call makes one of them greater.
 */
public final class RoomTest {
    private static final Face CLASS = new Face(RobotAisles.class);
    private static final int OBJECTS = 1000;
    private static final int FIELDS = 20000;

    private int right;
    private int wrong;

    public static void main(String[] args) throws Exception {
        RoomTest test = new RoomTest();
        Room room = new Room(new RobotAisles());
        test.check("a new object takes " + room, room.objects <= OBJECTS && room.fields <= FIELDS);
        for (Runs.Run run : Runs.all()) {
            RobotAisles object = new RobotAisles();
            for (Runs.Row row : run.rows) {
                CLASS.call(object, row.name, row.arguments);
            }
            Room after = new Room(object);
            test.check(run.head + ": it takes " + after + " then, " + room + " at first",
                after.objects == room.objects && after.fields == room.fields);
        }
        System.out.println("RoomTest: " + test.right + " passed, " + test.wrong + " failed");
        System.exit(test.wrong == 0 ? 0 : 1);
    }

    private void check(String what, boolean holds) {
        if (holds) {
            right++;
        } else {
            wrong++;
            System.out.println("not so: " + what);
        }
    }

    private static final class Room {
        private final Set<Object> seen = Collections.newSetFromMap(new IdentityHashMap<>());
        private final Deque<Object> open = new ArrayDeque<>();
        private final int objects;
        private int fields;

        Room(Object of) throws IllegalAccessException {
            open.add(of);
            while (!open.isEmpty()) {
                Object one = open.remove();
                if (seen.add(one)) {
                    lookInto(one);
                }
            }
            objects = seen.size();
        }

        private void lookInto(Object one) throws IllegalAccessException {
            if (one.getClass().isArray()) {
                fields += Array.getLength(one);
                for (int i = 0; one instanceof Object[] && i < Array.getLength(one); i++) {
                    reach(Array.get(one, i));
                }
                return;
            }
            for (Field field : one.getClass().getDeclaredFields()) {
                if (!Modifier.isStatic(field.getModifiers())) {
                    fields++;
                    field.setAccessible(true);
                    reach(field.getType().isPrimitive() ? null : field.get(one));
                }
            }
        }

        private void reach(Object one) {
            if (one != null) {
                open.add(one);
            }
        }

        @Override
        public String toString() {
            return objects + " objects with " + fields + " fields";
        }
    }
}
