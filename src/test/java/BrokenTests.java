import java.lang.reflect.Field;

/**
 * count(3) is 0 for ever if all is right; here things are broken from outside, to see that it looks at all.
 * This test knows the class from within, and changes with it.
 */
public final class BrokenTests {
    private static int wrong;

    public static void main(String[] args) throws ReflectiveOperationException {
        sequences();
        trees();
        sets();
        bottoms();
        heaps();
        streams();
        if (wrong > 0) {
            System.exit(1);
        }
    }

    private static Field field(Object object, String name) throws ReflectiveOperationException {
        Field field = object.getClass().getDeclaredField(name);
        field.setAccessible(true);
        return field;
    }

    /** Follows names, and places of arrays, from an object on. */
    private static Object part(Object from, Object... path) throws ReflectiveOperationException {
        Object here = from;
        for (Object step : path) {
            here = step instanceof Integer ? ((Object[]) here)[(Integer) step] : field(here, (String) step).get(here);
        }
        return here;
    }

    private static void due(PersistentTrove trove, String what, int want) {
        int got = trove.count(3);
        if (got != want) {
            wrong++;
            System.out.println(what + ": " + got + " are not in order, due is " + want);
        }
    }

    /** Sets a field to something else, looks, and mends it. */
    private static void breaks(PersistentTrove trove, Object object, String name, Object value)
            throws ReflectiveOperationException {
        Field field = field(object, name);
        Object before = field.get(object);
        String what = object.getClass().getSimpleName() + "." + name;
        due(trove, what + " mended", 0);
        field.set(object, value);
        due(trove, what, 1);
        field.set(object, before);
        due(trove, what + " mended", 0);
    }

    private static PersistentTrove with(int kind, long... elements) {
        PersistentTrove trove = new PersistentTrove(0);
        trove.make(0, kind);
        for (long element : elements) {
            if (kind == 1 || kind == 3) {
                trove.put(0, 0, element, 1);
            } else {
                trove.add(0, 0, element);
            }
        }
        trove.make(1, 0);
        return trove;
    }

    private static void sequences() throws ReflectiveOperationException {
        PersistentTrove trove = with(0, 1, 2, 3, 4, 5, 6, 7);
        Object root = part(trove, "slots", 0, "tree");
        breaks(trove, root, "size", 8);
        breaks(trove, root, "size", 1001);
        breaks(trove, root, "height", 4);
        breaks(trove, root, "left", null);
        breaks(trove, root, "right", part(root, "right", "right"));
        breaks(trove, part(root, "left"), "size", 2);
        breaks(trove, part(root, "right"), "height", 1);
        breaks(trove, part(root, "right", "left"), "height", 2);
        breaks(trove, part(root, "left", "right"), "size", 2);
    }

    private static void trees() throws ReflectiveOperationException {
        PersistentTrove trove = with(3, Long.MIN_VALUE, 1, 2, 3, 4, 5, Long.MAX_VALUE);
        Object root = part(trove, "slots", 0, "tree");
        breaks(trove, root, "key", 2L);
        breaks(trove, root, "key", 4L);
        breaks(trove, root, "key", Long.MIN_VALUE);
        breaks(trove, root, "key", Long.MAX_VALUE);
        breaks(trove, part(root, "left"), "key", 3L);
        breaks(trove, part(root, "left", "right"), "key", 3L);
        breaks(trove, part(root, "left", "right"), "key", 1L);
        breaks(trove, part(root, "right", "left"), "key", 3L);
        breaks(trove, part(root, "right", "right"), "key", 5L);
        // A SEQUENCE has no keys to be in order.
        PersistentTrove sequence = with(0, 1, 2, 3);
        field(part(sequence, "slots", 0, "tree"), "key").set(part(sequence, "slots", 0, "tree"), 9L);
        due(sequence, "a sequence with a key", 0);
    }

    private static void sets() throws ReflectiveOperationException {
        PersistentTrove trove = with(2, 1, 2, 3, 4, 36, 5, 37, 1029);
        Object root = part(trove, "slots", 0, "trie");
        breaks(trove, root, "total", 9);
        breaks(trove, root, "total", 0);
        breaks(trove, root, "level", 1);
        breaks(trove, root, "keyBits", 1 << 1 | 1 << 2 | 1 << 6);
        breaks(trove, root, "keyBits", 1 << 1 | 1 << 2);
        breaks(trove, root, "keyBits", 1 << 1 | 1 << 2 | 1 << 3 | 1 << 4);
        breaks(trove, root, "nodeBits", 1 << 4 | 1 << 6);
        breaks(trove, root, "nodeBits", 1 << 4);
        breaks(trove, root, "nodeBits", 1 << 4 | 1 << 5 | 1 << 6);
        breaks(trove, root, "keys", new long[] {1, 3, 2});
        breaks(trove, root, "keys", new long[] {1, 2, 4});
        breaks(trove, root, "keys", new long[] {1, 2});
        breaks(trove, root, "values", new long[] {1, 1});
        breaks(trove, part(root, "nodes", 0), "total", 1);
        breaks(trove, part(root, "nodes", 0), "total", 3);
        breaks(trove, part(root, "nodes", 0), "level", 2);
        breaks(trove, part(root, "nodes", 0), "keys", new long[] {5, 36});
        breaks(trove, part(root, "nodes", 0), "keys", new long[] {4, 37});
        breaks(trove, part(root, "nodes", 1, "nodes", 0), "keys", new long[] {5, 1030});
        PersistentTrove one = with(2, 1);
        breaks(one, part(one, "slots", 0, "trie"), "total", 2);
    }

    private static void bottoms() throws ReflectiveOperationException {
        long other = 1L << 32;
        PersistentTrove trove = with(1, 7, other | 7, 2 * other | 7);
        Object node = part(trove, "slots", 0, "trie");
        for (int level = 0; level < 7; level++) {
            node = part(node, "nodes", 0);
        }
        breaks(trove, node, "keys", new long[] {7, 2 * other | 7, other | 7});
        breaks(trove, node, "keys", new long[] {other | 7, 7, 2 * other | 7});
        breaks(trove, node, "keys", new long[] {7, 7, other | 7});
        breaks(trove, node, "keys", new long[] {8, other | 7, 2 * other | 7});
        breaks(trove, node, "keys", new long[] {7, other | 7, 2 * other | 8});
        breaks(trove, node, "total", 2);
        breaks(trove, node, "level", 6);
    }

    private static void heaps() throws ReflectiveOperationException {
        PersistentTrove trove = with(5, 1, 2, 3, 4, 5, 6, 7);
        Object root = part(trove, "slots", 0, "pile");
        breaks(trove, root, "size", 6);
        breaks(trove, root, "value", 100L);
        breaks(trove, part(root, "left"), "value", 0L);
        breaks(trove, part(root, "right"), "value", 0L);
        Object left = part(root, "left");
        Object right = part(root, "right");
        breaks(trove, right, "size", 50);
        breaks(trove, left, "size", 50);
        PersistentTrove swapped = with(5, 1, 2);
        Object top = part(swapped, "slots", 0, "pile");
        Object below = part(top, "left");
        field(top, "left").set(top, null);
        due(swapped, "a heap that lost its left side", 1);
        field(top, "right").set(top, below);
        due(swapped, "a heap whose right side is the larger", 1);
    }

    private static void streams() throws ReflectiveOperationException {
        PersistentTrove trove = with(6);
        breaks(trove, part(trove, "slots", 0), "depth", 101);
    }
}
