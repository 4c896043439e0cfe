import java.lang.reflect.Field;

/** Looks into an object, for tests that must see a count answer what it would if something were wrong. */
final class Inside {
    private Inside() {
    }

    /** Another class with the same face may hold its state as it likes; there is nothing to look for in it then. */
    static boolean isOurs(CheriCore core) {
        for (Field field : core.getClass().getDeclaredFields()) {
            if (field.getName().equals("state")) {
                return true;
            }
        }
        return false;
    }

    static Object of(Object holder, String... path) {
        try {
            Object at = holder;
            for (String name : path) {
                Field field = at.getClass().getDeclaredField(name);
                field.setAccessible(true);
                at = field.get(at);
            }
            return at;
        } catch (ReflectiveOperationException e) {
            throw new IllegalStateException(e);
        }
    }

    static void set(Object holder, String name, Object value) {
        try {
            Field field = holder.getClass().getDeclaredField(name);
            field.setAccessible(true);
            field.set(holder, value);
        } catch (ReflectiveOperationException e) {
            throw new IllegalStateException(e);
        }
    }
}
