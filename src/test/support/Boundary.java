import java.util.NoSuchElementException;

/** What all tests of boundary cases share: names for numbers, and the telling of what is wrong. */
abstract class Boundary {
    static final int SEQUENCE = 0;
    static final int MAP = 1;
    static final int SET = 2;
    static final int TREE = 3;
    static final int QUEUE = 4;
    static final int HEAP = 5;
    static final int STREAM = 6;
    static final int NO_KIND = -1;

    static final int CALLS = 0;
    static final int MOVES = 1;
    static final int OPEN = 2;
    static final int UNSOUND = 3;

    static final Class<?> ARGUMENT = IllegalArgumentException.class;
    static final Class<?> STATE = IllegalStateException.class;
    static final Class<?> NONE = NoSuchElementException.class;
    static final Class<?> FULL = IndexOutOfBoundsException.class;
    static final Class<?> DIVISION = ArithmeticException.class;
    static final Class<?> UNSUPPORTED = UnsupportedOperationException.class;

    static final long LEAST = Long.MIN_VALUE;
    static final long MOST = Long.MAX_VALUE;

    private static String current = "";
    private static int wrong;

    interface Test {
        void run();
    }

    /** The test of one sentence, which is told by its words. */
    static void sentence(String words, Test test) {
        current = words;
        try {
            test.run();
        } catch (RuntimeException e) {
            tell("threw " + e);
            e.printStackTrace(System.out);
        }
    }

    static void tell(String text) {
        wrong++;
        StringBuilder lines = new StringBuilder();
        for (StackTraceElement element : new Throwable().getStackTrace()) {
            if (element.getClassName().endsWith("Tests") && !element.getMethodName().equals("main")) {
                lines.append(' ').append(element.getLineNumber());
            }
        }
        System.out.println("\"" + current + "\" (lines" + lines + "): " + text);
    }

    static void end() {
        if (wrong > 0) {
            System.out.println(wrong + " answers are not as due");
            System.exit(1);
        }
    }

    static Scene scene() {
        return new Scene(0);
    }

    static Scene scene(int grain) {
        return new Scene(grain);
    }

    /** Slots 0 .. 6 hold one of each kind with three ELEMENTS; builders 0 .. 2 are OPEN, 3 is not. */
    static Scene allKinds() {
        Scene scene = scene();
        for (int kind = SEQUENCE; kind <= STREAM; kind++) {
            scene = scene.holding(kind, kind, 5, 6, 7);
        }
        return scene.with(t -> t.open(0, SEQUENCE), t -> t.open(1, MAP), t -> t.open(2, SET));
    }

    /** Slots 0 .. 6 hold an empty one of each kind. */
    static Scene allEmpty() {
        Scene scene = scene();
        for (int kind = SEQUENCE; kind <= STREAM; kind++) {
            scene = scene.holding(kind, kind);
        }
        return scene;
    }

    /** The i-th of many keys that have one HASH in this GRAIN; the HASH is below 256. */
    static long alike(int grain, int i, int hash) {
        return grain == 0 ? (long) i << 32 | hash : grain == 1 ? i * 256L + hash : i;
    }

    /** The SHAPE of a NODE. */
    static int node(int keyBits, int nodeBits, int... below) {
        int s = (17 * 31 + keyBits) * 31 + nodeBits;
        for (int shape : below) {
            s = 31 * s + shape;
        }
        return s;
    }

    /** The SHAPE of NODE 0 if this SHAPE stands alone at a level, and each NODE above it has it at number 0. */
    static int below(int levels, int shape) {
        int s = shape;
        for (int i = 0; i < levels; i++) {
            s = node(0, 1, s);
        }
        return s;
    }
}
