import java.lang.management.ManagementFactory;

/**
 * All calls of a run live in one room, and calls stand open at once in a bounded number: runs of 512 calls
 * that are as dear as can be are measured, in bytes that are made and in how deep calls go.
 */
public final class RoomTests {
    /** Far below 600,000 objects and 7.3 million fields, which are some 60 million bytes. */
    private static final long MOST_BYTES = 24_000_000;
    private static final int MOST_OPEN_CALLS = 290;
    private static final int CALLS = 512;

    private static final com.sun.management.ThreadMXBean THREADS =
            (com.sun.management.ThreadMXBean) ManagementFactory.getThreadMXBean();

    private static int wrong;
    private static boolean told;

    private interface Run {
        void on(Counted trove);
    }

    /** Ends a run at its 512th call. */
    private static final class Counted {
        final PersistentTrove trove;
        private int left = CALLS;

        Counted(int grain) {
            trove = new PersistentTrove(grain);
        }

        boolean more(int calls) {
            left -= calls;
            return left >= 0;
        }

        /** A call that may throw. */
        boolean tried(Runnable call) {
            if (!more(1)) {
                return false;
            }
            try {
                call.run();
            } catch (RuntimeException e) {
                return true;
            }
            return true;
        }
    }

    public static void main(String[] args) {
        told = args.length > 0;
        measure("frozen sequences", 0, RoomTests::frozenSequences);
        for (int grain = 0; grain < 3; grain++) {
            measure("frozen sets", grain, RoomTests::frozenSets);
            measure("joined sets", grain, RoomTests::joinedSets);
            measure("joined sets that are alike", grain, RoomTests::joinedAlike);
            measure("sets that lose keys", grain, RoomTests::metSets);
            measure("keys that come and go", grain, RoomTests::changedKeys);
        }
        measure("joined trees", 0, RoomTests::joinedTrees);
        measure("full trees", 0, RoomTests::fullTrees);
        measure("sequences gone over", 0, RoomTests::mappedSequences);
        measure("sequences cut and joined", 0, RoomTests::cutSequences);
        measure("heaps", 0, RoomTests::heaps);
        measure("deep streams", 0, RoomTests::deepStreams);
        measure("streams that fail", 0, RoomTests::failingStreams);
        openCalls();
        if (wrong > 0) {
            System.exit(1);
        }
    }

    private static void measure(String name, int grain, Run run) {
        long thread = Thread.currentThread().getId();
        run.on(new Counted(grain));
        long before = THREADS.getThreadAllocatedBytes(thread);
        Counted counted = new Counted(grain);
        run.on(counted);
        long bytes = THREADS.getThreadAllocatedBytes(thread) - before;
        if (told) {
            System.out.println(name + " (grain " + grain + "): " + bytes + " bytes, "
                    + counted.trove.count(1) + " moves");
        }
        if (bytes > MOST_BYTES) {
            wrong++;
            System.out.println(name + " (grain " + grain + "): " + bytes + " bytes, at most are due " + MOST_BYTES);
        }
    }

    private static void thousand(Counted c, int slot) {
        c.more(2);
        c.trove.iterate(slot, 0, 0, 1);
        c.trove.list(slot, slot, 1000);
    }

    private static void frozenSequences(Counted c) {
        thousand(c, 0);
        while (c.more(2)) {
            c.trove.open(0, 0);
            c.trove.freeze(0, 0);
        }
    }

    private static void frozenSets(Counted c) {
        c.trove.make(0, 2);
        long i = 0;
        while (c.more(3)) {
            c.trove.open(0, 0);
            long key = i;
            c.tried(() -> c.trove.build(0, 0, key * 37, 0));
            c.trove.freeze(0, 0);
            i++;
        }
    }

    private static void fillSet(Counted c, int slot, int total, long step) {
        c.more(3 + total / 64);
        c.trove.make(slot, 2);
        c.trove.open(3, slot);
        for (int i = 0; i < total; i++) {
            long key = i;
            try {
                c.trove.build(3, 0, key % 250 + (key / 250 + step) * 256, 0);
            } catch (IndexOutOfBoundsException e) {
                break;
            }
        }
        c.trove.freeze(3, slot);
    }

    private static void joinedSets(Counted c) {
        fillSet(c, 0, 500, 0);
        fillSet(c, 1, 500, 2);
        while (c.tried(() -> c.trove.join(2, 0, 1))) {
            c.tried(() -> c.trove.join(3, 1, 0));
        }
    }

    /** Each key meets one of the same HASH: a chain of nodes for each of them. */
    private static void joinedAlike(Counted c) {
        c.trove.make(0, 2);
        c.trove.make(1, 2);
        c.trove.open(0, 0);
        c.trove.open(1, 1);
        for (long i = 0; i < 500; i++) {
            long key = i;
            try {
                c.trove.build(0, 0, key * 0x9E3779B1L & 0xFFFFFFFFL, 0);
                c.trove.build(1, 0, key * 0x9E3779B1L & 0xFFFFFFFFL | 1L << 40, 0);
            } catch (IndexOutOfBoundsException e) {
                break;
            }
        }
        c.trove.freeze(0, 0);
        c.trove.freeze(1, 1);
        c.more(16);
        while (c.tried(() -> c.trove.join(2, 0, 1))) {
            c.tried(() -> c.trove.join(3, 1, 0));
            c.tried(() -> c.trove.filter(3, 2, 0, 1L << 40));
        }
    }

    private static void metSets(Counted c) {
        fillSet(c, 0, 1000, 0);
        fillSet(c, 1, 500, 0);
        while (c.tried(() -> c.trove.meet(2, 0, 1, true))) {
            c.tried(() -> c.trove.meet(2, 0, 1, false));
            c.tried(() -> c.trove.filter(2, 0, 1, 1));
        }
    }

    private static void changedKeys(Counted c) {
        fillSet(c, 0, 900, 0);
        long i = 0;
        while (c.more(0)) {
            long key = i * 769;
            c.tried(() -> c.trove.add(1, 0, key));
            c.tried(() -> c.trove.out(0, 0, key % 250));
            i++;
        }
    }

    private static void fillTree(Counted c, int slot, int start, int step) {
        c.more(60);
        c.trove.make(slot, 3);
        for (int i = 0; i < 500; i++) {
            c.trove.put(slot, slot, start + (long) i * step, i);
        }
    }

    private static void joinedTrees(Counted c) {
        fillTree(c, 0, 0, 2);
        fillTree(c, 1, 1, 2);
        while (c.tried(() -> c.trove.join(2, 0, 1))) {
            c.tried(() -> c.trove.range(3, 2, 100, 900));
            c.tried(() -> c.trove.turn(4, 3));
        }
    }

    private static void fullTrees(Counted c) {
        fillTree(c, 0, 0, 2);
        fillTree(c, 1, 1, 2);
        c.trove.join(2, 0, 1);
        c.trove.put(0, 0, -1, 1);
        while (c.tried(() -> c.trove.join(3, 2, 0))) {
            c.tried(() -> c.trove.put(3, 2, 500, 5));
            c.tried(() -> c.trove.put(3, 2, -5, 5));
            c.tried(() -> c.trove.out(3, 2, 501));
        }
    }

    private static void mappedSequences(Counted c) {
        thousand(c, 0);
        while (c.tried(() -> c.trove.map(1, 0, 0, 1))) {
            c.tried(() -> c.trove.filter(2, 0, 4, 1));
            c.tried(() -> c.trove.map(1, 0, 4, 0));
        }
    }

    private static void cutSequences(Counted c) {
        thousand(c, 0);
        while (c.tried(() -> c.trove.drop(1, 0, 501, true))) {
            c.tried(() -> c.trove.drop(2, 0, 501, false));
            c.tried(() -> c.trove.join(3, 1, 2));
            c.tried(() -> c.trove.set(0, 0, 500, 1));
            c.tried(() -> c.trove.pop(3, 0));
            c.tried(() -> c.trove.push(3, 3, 0));
            c.tried(() -> c.trove.add(4, 1, 0));
        }
    }

    private static void heaps(Counted c) {
        c.trove.make(0, 5);
        c.trove.add(0, 0, 1);
        for (int i = 0; i < 9; i++) {
            c.trove.add(1, 0, i * 7 % 5);
            c.trove.join(0, 0, 0);
        }
        c.more(20);
        while (c.tried(() -> c.trove.pop(1, 0))) {
            c.tried(() -> c.trove.add(2, 0, 3));
            c.tried(() -> c.trove.join(3, 1, 0));
            c.tried(() -> c.trove.same(0, 1));
        }
    }

    private static void deepStreams(Counted c) {
        c.trove.iterate(0, 0, 0, 1);
        for (int i = 0; i < 100; i++) {
            c.trove.filter(0, 0, 4, 1);
        }
        c.more(101);
        while (c.tried(() -> c.trove.at(0, 1000))) {
            c.tried(() -> c.trove.list(1, 0, 1000));
            c.tried(() -> c.trove.push(0, 0, 1));
        }
    }

    private static void failingStreams(Counted c) {
        thousand(c, 0);
        c.trove.set(0, 0, 0, 1);
        c.trove.set(0, 0, 999, 0);
        c.trove.turn(1, 0);
        c.trove.map(2, 1, 5, 9);
        c.trove.filter(3, 1, 2, 1);
        while (c.tried(() -> c.trove.at(2, 999))) {
            c.tried(() -> c.trove.filter(4, 2, 2, 77));
            c.tried(() -> c.trove.pop(5, 3));
        }
    }

    /** The deepest chains of cells, with a division by 0 at their end: the trace tells how many stood open. */
    private static void openCalls() {
        for (int way = 0; way < 4; way++) {
            PersistentTrove trove = new PersistentTrove(0);
            risingThenZero(trove);
            for (int i = 1; i < 100; i++) {
                if (way == 0) {
                    // Each filter passes over one element that those below it let through.
                    trove.filter(0, 0, 0, 1000 - i);
                } else if (way == 1) {
                    trove.map(0, 0, 0, 0);
                } else if (way == 2) {
                    trove.take(0, 0, 1000);
                } else {
                    trove.join(0, 0, 0);
                }
            }
            checkOpenCalls("way " + way, () -> trove.filter(1, 0, 2, 0));
            checkOpenCalls("way " + way, () -> trove.list(1, 0, 200));
            checkOpenCalls("way " + way, () -> trove.at(0, 200));
        }
    }

    /** Slot 0 holds the STREAM 1, 901, 902, .. 999, and then a division by 0; it has the depth 1. */
    private static void risingThenZero(PersistentTrove trove) {
        long c = 1_000_000_000_000L;
        trove.make(0, 0);
        trove.add(0, 0, c);
        for (int i = 901; i <= 999; i++) {
            trove.add(0, 0, c / i);
        }
        trove.add(0, 0, 0);
        trove.turn(0, 0);
        trove.map(0, 0, 5, c);
    }

    private static void checkOpenCalls(String name, Runnable call) {
        try {
            call.run();
            wrong++;
            System.out.println(name + ": threw nothing, a division by 0 is due");
        } catch (ArithmeticException e) {
            int open = 0;
            for (StackTraceElement element : e.getStackTrace()) {
                if (element.getClassName().startsWith("PersistentTrove")) {
                    open++;
                }
            }
            if (told) {
                System.out.println(name + ": " + open + " calls open at once");
            }
            if (open > MOST_OPEN_CALLS) {
                wrong++;
                System.out.println(name + ": " + open + " calls stood open at once");
            }
        }
    }
}
