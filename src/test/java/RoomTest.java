import java.lang.reflect.Array;
import java.lang.reflect.Field;
import java.lang.reflect.Modifier;
import java.util.ArrayDeque;
import java.util.Collections;
import java.util.Deque;
import java.util.IdentityHashMap;
import java.util.Set;

/**
 * How much room an object takes, new and behind 512 calls of every kind: what it is made of stays as it is.
 * That no call makes anything besides is seen in the source (GuardsTest).
 */
public final class RoomTest {
    private static final int MOST_OBJECTS = 1_000, MOST_ELEMENTS = 10_000;
    private static final int CALLS = 512;

    /** The objects and arrays that belong to an object, and their fields and elements. */
    private record Room(int objects, int elements) {
        static Room of(Object whole) throws IllegalAccessException {
            Set<Object> met = Collections.newSetFromMap(new IdentityHashMap<>());
            Deque<Object> open = new ArrayDeque<>();
            meet(whole, met, open);
            int elements = 0;
            while (!open.isEmpty()) {
                Object one = open.pop();
                elements += one.getClass().isArray() ? elementsOf(one, met, open) : fieldsOf(one, met, open);
            }
            return new Room(met.size(), elements);
        }

        private static void meet(Object one, Set<Object> met, Deque<Object> open) {
            if (one != null && met.add(one)) {
                open.push(one);
            }
        }

        private static int elementsOf(Object array, Set<Object> met, Deque<Object> open) {
            if (array instanceof Object[]) {
                for (Object element : (Object[]) array) {
                    meet(element, met, open);
                }
            }
            return Array.getLength(array);
        }

        private static int fieldsOf(Object one, Set<Object> met, Deque<Object> open) throws IllegalAccessException {
            int fields = 0;
            for (Field field : one.getClass().getDeclaredFields()) {
                if (Modifier.isStatic(field.getModifiers())) {
                    continue;
                }
                fields++;
                if (!field.getType().isPrimitive()) {
                    field.setAccessible(true);
                    meet(field.get(one), met, open);
                }
            }
            return fields;
        }
    }

    private static void call(HalfTickets x, int call) {
        int number = call / 21;
        switch (call % 21) {
            case 0: x.put(0x30_31_2C_31_30_32_2C_33L); break;
            case 1: x.fault(); break;
            case 2: x.read(); break;
            case 3: x.set(number % 3, 1 + number % 6); break;
            case 4: x.window(number % 6, number % 2 == 0); break;
            case 5: x.clerks(number % 6, number % 4); break;
            case 6: x.bring(number % 6); break;
            case 7: x.leave(number % 24); break;
            case 8: x.pass(1 + number); break;
            case 9: x.person(number % 24, number % 9); break;
            case 10: x.windowOf(number % 6, number % 7); break;
            case 11: x.count(number % 17); break;
            case 12: x.untilDone(number % 24); break;
            case 13: x.ifPassed(1 + number, number % 4); break;
            case 14: x.bestClerk(); break;
            case 15: x.longest(); break;
            case 16: x.save(number % 2); break;
            case 17: x.restore(number % 2); break;
            case 18: x.undo(); break;
            case 19: x.put(0); break;
            default: x.wipe(); break;
        }
    }

    public static void main(String[] args) throws Exception {
        HalfTickets x = new HalfTickets();
        Room made = Room.of(x);
        for (int call = 0; call < CALLS; call++) {
            call(x, call);
        }
        Room used = Room.of(x);
        System.out.println("RoomTest: new " + made + ", used " + used);
        if (!made.equals(used) || made.objects() > MOST_OBJECTS || made.elements() > MOST_ELEMENTS) {
            System.out.println("it takes more room when it is used, or more than " + MOST_OBJECTS + " objects and "
                + MOST_ELEMENTS + " elements");
            System.exit(1);
        }
    }
}
