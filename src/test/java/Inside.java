import java.lang.reflect.Array;
import java.lang.reflect.Field;

/**
 * Puts numbers into an object that no call could put there, to see that its checks see them, and
 * reads what no call tells. A path names fields, and numbers where a field is an array.
 */
final class Inside {
    private Inside() {
    }

    static void add(SluiceChain chain, int amount, String... path) {
        try {
            Object holder = holderOf(chain, path);
            Field last = field(holder, path[path.length - 1]);
            if (last.getType() == long.class) {
                last.setLong(holder, last.getLong(holder) + amount);
            } else {
                last.setInt(holder, last.getInt(holder) + amount);
            }
        } catch (ReflectiveOperationException e) {
            Check.isWrong("the class has no field " + String.join(".", path));
        }
    }

    static int read(SluiceChain chain, String... path) {
        try {
            Object holder = holderOf(chain, path);
            return field(holder, path[path.length - 1]).getInt(holder);
        } catch (ReflectiveOperationException e) {
            Check.isWrong("the class has no field " + String.join(".", path));
            return 0;
        }
    }

    /** What the path leads to without its last name. */
    private static Object holderOf(SluiceChain chain, String... path)
            throws ReflectiveOperationException {
        Object holder = chain;
        for (int i = 0; i < path.length - 1; i++) {
            holder = holder.getClass().isArray() ? Array.get(holder, Integer.parseInt(path[i]))
                    : field(holder, path[i]).get(holder);
        }
        return holder;
    }

    private static Field field(Object holder, String name) throws NoSuchFieldException {
        Field field = holder.getClass().getDeclaredField(name);
        field.setAccessible(true);
        return field;
    }
}
