import java.lang.reflect.Field;

/** Reaches what a cannery holds, to make one that no run of calls makes: isConsistent has to answer false then. */
final class Inside {
    private Inside() {
    }

    private static Object inner(Object owner, String name) throws ReflectiveOperationException {
        return field(owner, name).get(owner);
    }

    private static Field field(Object owner, String name) throws ReflectiveOperationException {
        Field field = owner.getClass().getDeclaredField(name);
        field.setAccessible(true);
        return field;
    }

    /** Puts a number into a field, such as "state.brine.batches", or into the first cell of a row. */
    static void put(JarCannery cannery, String path, int value) {
        try {
            String[] names = path.split("\\.");
            Object owner = cannery;
            for (int index = 0; index < names.length - 1; index++) {
                owner = inner(owner, names[index]);
            }
            Field last = field(owner, names[names.length - 1]);
            if (last.getType() == int.class) {
                last.setInt(owner, value);
            } else {
                ((int[]) inner(last.get(owner), "cells"))[0] = value;
            }
        } catch (ReflectiveOperationException e) {
            throw new IllegalStateException("nothing is called " + path + " inside", e);
        }
    }
}
