import java.util.ArrayList;
import java.util.Collections;
import java.util.List;
import java.util.Map;
import java.util.NoSuchElementException;
import java.util.Random;
import java.util.TreeMap;
import java.util.function.LongSupplier;
import java.util.function.Supplier;

/**
 * Runs of chance calls (always the same ones) on the class and on a model that is as plain as can be:
 * whole lists and maps are copied, a stream is a chain of suppliers. Every answer must be the same.
 */
public final class ModelTests {
    private static final int RUNS = 600;
    private static final int CALLS_PER_RUN = 500;

    private final Random random;
    private final PersistentTrove real;
    private final Model model;
    private final long[] pool;
    private final int style;
    private final StringBuilder told = new StringBuilder();
    private String fault;

    private ModelTests(int seed) {
        random = new Random(seed);
        int grain = random.nextInt(9) - 4;
        real = new PersistentTrove(grain);
        model = new Model(Math.floorMod(grain, 3));
        style = seed % 4;
        pool = new long[style == 0 ? 12 : 200];
        for (int i = 0; i < pool.length; i++) {
            pool[i] = chanceKey();
        }
        told.append("new PersistentTrove(").append(grain).append(")\n");
    }

    public static void main(String[] args) {
        int runs = args.length > 0 ? Integer.parseInt(args[0]) : RUNS;
        for (int seed = 0; seed < runs; seed++) {
            ModelTests test = new ModelTests(seed);
            test.run();
            if (test.fault != null) {
                System.out.println("seed " + seed + ":\n" + test.told + test.fault);
                System.exit(1);
            }
        }
    }

    private void run() {
        for (int slot = 0; slot < 21; slot++) {
            int s = slot;
            call("make", () -> zero(() -> real.make(s, s % 7)), () -> model.make(s, s % 7), s, s % 7);
        }
        if (style == 1) {
            fillUp();
        } else if (style == 2) {
            useMoves();
        } else if (style == 3) {
            goDeep();
        }
        for (int i = 0; i < CALLS_PER_RUN && fault == null; i++) {
            chanceCall();
            if (i % 100 == 99) {
                compareAll();
            }
        }
    }

    /** Collections that are FULL or nearly so, in slots 0 .. 5. */
    private void fillUp() {
        int total = 1000 - random.nextInt(3) * random.nextInt(20);
        long factor = random.nextInt(4) == 0 ? 1L << 28 : random.nextInt(1000) + 1;
        for (int kind = 0; kind <= 5; kind++) {
            int s = kind;
            for (int i = 0; i < total; i++) {
                long key = i < pool.length ? pool[i] : i * factor;
                if (kind == 1 || kind == 3) {
                    call("put", () -> real.put(s, s, key, 5), () -> model.put(s, s, key, 5), s, s, key, 5);
                } else {
                    call("add", () -> real.add(s, s, key), () -> model.add(s, s, key), s, s, key);
                }
            }
        }
    }

    /** Nearly as many moves as there may be. */
    private void useMoves() {
        int left = random.nextInt(300);
        call("iterate", () -> zero(() -> real.iterate(6, 0, 0, 1)), () -> model.iterate(6, 0, 0, 1), 6, 0, 0, 1);
        while (model.moves < 20000 - left && fault == null) {
            int n = Math.min(1000, 20000 - left - model.moves);
            call("list", () -> real.list(0, 6, n), () -> model.list(0, 6, n), 0, 6, n);
            call("same", () -> real.same(0, 7) ? 1 : 0, () -> model.same(0, 7), 0, 7);
        }
        int kept = random.nextInt(20);
        int n = model.slots[0].size() - Math.min(kept, model.slots[0].size());
        call("drop", () -> real.drop(0, 0, n, true), () -> model.drop(0, 0, n, true), 0, 0, n, 1);
    }

    /** Streams that are as deep as they may be, or nearly so. */
    private void goDeep() {
        int first = random.nextInt(3);
        call("iterate", () -> zero(() -> real.iterate(6, first, 0, 1)), () -> model.iterate(6, first, 0, 1), 6, first, 0, 1);
        int depth = 100 - random.nextInt(4);
        for (int i = 0; i < depth; i++) {
            int c = random.nextInt(5) + 1;
            switch (random.nextInt(6)) {
                case 0:
                    call("filter", () -> zero(() -> real.filter(6, 6, 1, 31)), () -> model.filter(6, 6, 1, 31), 6, 6, 1, 31);
                    break;
                case 1:
                    call("filter", () -> zero(() -> real.filter(6, 6, 4, c)), () -> model.filter(6, 6, 4, c), 6, 6, 4, c);
                    break;
                case 2:
                    call("take", () -> zero(() -> real.take(6, 6, 9 * c)), () -> model.take(6, 6, 9 * c), 6, 6, 9 * c);
                    break;
                case 3:
                    call("join", () -> real.join(6, 6, 13), () -> model.join(6, 6, 13), 6, 6, 13);
                    break;
                default:
                    call("map", () -> zero(() -> real.map(6, 6, 0, c)), () -> model.map(6, 6, 0, c), 6, 6, 0, c);
            }
        }
    }

    private long chanceKey() {
        switch (random.nextInt(6)) {
            case 0:
                return random.nextInt(10) - 5;
            case 1:
                return random.nextInt(5) * 256L + random.nextInt(3);
            case 2:
                return ((long) random.nextInt(24) - 12 << 32) + random.nextInt(2);
            case 3:
                return (long) random.nextInt(64) << 5 * random.nextInt(7);
            case 4:
                return random.nextBoolean() ? Long.MIN_VALUE : Long.MAX_VALUE;
            default:
                return random.nextLong();
        }
    }

    private long key() {
        return pool[random.nextInt(pool.length)];
    }

    private int slot() {
        if (random.nextInt(150) == 0) {
            return random.nextBoolean() ? -1 : 24;
        }
        return random.nextInt(random.nextInt(3) == 0 ? 24 : 10);
    }

    /** A slot that holds one of this kind, if there is one; now and then any slot. */
    private int slotOf(int kind) {
        if (random.nextInt(30) != 0) {
            int start = random.nextInt(24);
            for (int i = 0; i < 24; i++) {
                int slot = (start + i) % 24;
                Thing thing = model.slots[slot];
                if (thing != null && thing.kind == kind) {
                    return slot;
                }
            }
        }
        return slot();
    }

    private int oneOf(int... kinds) {
        return slotOf(kinds[random.nextInt(kinds.length)]);
    }

    private int within(int most) {
        return random.nextInt(80) == 0 ? (random.nextBoolean() ? -1 : most + 1) : random.nextInt(most + 1);
    }

    private int few(int most) {
        return random.nextInt(60) == 0 ? -1 - random.nextInt(3) : random.nextInt(most + 1);
    }

    private void chanceCall() {
        int s = slot();
        int k;
        int i;
        int n;
        long x = key();
        long y = random.nextInt(3) == 0 ? key() : random.nextInt(9) - 4;
        boolean flag = random.nextBoolean();
        switch (random.nextInt(43)) {
            case 0:
                k = within(6);
                call("make", () -> zero(() -> real.make(s, k)), () -> model.make(s, k), s, k);
                return;
            case 2:
                i = slot();
                call("copy", () -> zero(() -> real.copy(s, i)), () -> model.copy(s, i), s, i);
                return;
            case 3:
                i = slot();
                call("size", () -> real.size(i), () -> model.size(i), i);
                call("kind", () -> real.kind(i), () -> model.kind(i), i);
                return;
            case 4:
            case 5:
            case 6:
                i = oneOf(0, 2, 4, 5);
                call("add", () -> real.add(s, i, x), () -> model.add(s, i, x), s, i, x);
                return;
            case 7:
                i = oneOf(0, 6);
                call("push", () -> zero(() -> real.push(s, i, x)), () -> model.push(s, i, x), s, i, x);
                return;
            case 8:
                i = slotOf(0);
                n = few(12);
                call("set", () -> real.set(s, i, n, x), () -> model.set(s, i, n, x), s, i, n, x);
                return;
            case 9:
            case 10:
                i = oneOf(0, 1, 2, 3, 6);
                n = few(random.nextInt(10) == 0 ? 300 : 12);
                call("at", () -> real.at(i, n), () -> model.at(i, n), i, n);
                return;
            case 11:
                i = slotOf(0);
                n = few(8);
                call("drop", () -> real.drop(s, i, n, flag), () -> model.drop(s, i, n, flag), s, i, n, flag ? 1 : 0);
                return;
            case 12:
            case 13:
                i = oneOf(0, 4, 5, 6);
                call("pop", () -> real.pop(s, i), () -> model.pop(s, i), s, i);
                return;
            case 14:
                i = oneOf(4, 5, 6);
                call("front", () -> real.front(i), () -> model.front(i), i);
                return;
            case 15:
            case 16:
            case 17:
                i = oneOf(1, 3);
                call("put", () -> real.put(s, i, x, y), () -> model.put(s, i, x, y), s, i, x, y);
                return;
            case 18:
                i = oneOf(1, 2, 3);
                call("find", () -> real.find(i, x), () -> model.find(i, x), i, x);
                return;
            case 19:
                i = oneOf(1, 2, 3);
                call("out", () -> real.out(s, i, x), () -> model.out(s, i, x), s, i, x);
                return;
            case 20:
                i = slotOf(3);
                n = within(3);
                call("near", () -> real.near(i, x, n), () -> model.near(i, x, n), i, x, n);
                return;
            case 21:
                i = slotOf(3);
                call("range", () -> real.range(s, i, x, y), () -> model.range(s, i, x, y), s, i, x, y);
                return;
            case 22:
            case 23:
            case 24:
                k = random.nextInt(7);
                i = slotOf(k);
                n = slotOf(k);
                call("join", () -> real.join(s, i, n), () -> model.join(s, i, n), s, i, n);
                return;
            case 25:
                i = slotOf(2);
                n = slotOf(2);
                call("meet", () -> real.meet(s, i, n, flag), () -> model.meet(s, i, n, flag), s, i, n, flag ? 1 : 0);
                return;
            case 26:
                i = oneOf(1, 2);
                call("shape", () -> real.shape(i), () -> model.shape(i), i);
                return;
            case 27:
                k = random.nextInt(7);
                i = slotOf(k);
                n = slotOf(k);
                call("same", () -> real.same(i, n) ? 1 : 0, () -> model.same(i, n), i, n);
                return;
            case 28:
            case 29:
                i = oneOf(0, 6, 6);
                n = within(6);
                call("map", () -> zero(() -> real.map(s, i, n, y)), () -> model.map(s, i, n, y), s, i, n, y);
                return;
            case 30:
            case 31:
                i = oneOf(0, 2, 6, 6);
                n = within(4);
                call("filter", () -> zero(() -> real.filter(s, i, n, y)), () -> model.filter(s, i, n, y), s, i, n, y);
                return;
            case 32:
                n = within(6);
                call("iterate", () -> zero(() -> real.iterate(s, x, n, y)), () -> model.iterate(s, x, n, y), s, x, n, y);
                return;
            case 33:
                i = slotOf(6);
                n = few(10);
                call("take", () -> zero(() -> real.take(s, i, n)), () -> model.take(s, i, n), s, i, n);
                return;
            case 34:
                i = slotOf(6);
                n = random.nextInt(8) == 0 ? within(1000) : few(30);
                call("list", () -> real.list(s, i, n), () -> model.list(s, i, n), s, i, n);
                return;
            case 35:
                i = oneOf(0, 1, 2, 3);
                call("turn", () -> zero(() -> real.turn(s, i)), () -> model.turn(s, i), s, i);
                return;
            case 36:
                k = within(3);
                i = oneOf(0, 1, 2);
                call("open", () -> zero(() -> real.open(k, i)), () -> model.open(k, i), k, i);
                return;
            case 38:
                k = within(3);
                call("look", () -> real.look(k, x), () -> model.look(k, x), k, x);
                call("look", () -> real.look(k, y), () -> model.look(k, y), k, y);
                if (random.nextInt(3) == 0) {
                    call("freeze", () -> real.freeze(k, s), () -> model.freeze(k, s), k, s);
                }
                return;
            case 39:
                for (int what = -1; what <= 4; what++) {
                    int here = what;
                    call("count", () -> real.count(here), () -> model.count(here), what);
                }
                return;
            default:
                k = within(3);
                n = within(2);
                call("build", () -> real.build(k, n, x, y), () -> model.build(k, n, x, y), k, n, x, y);
                call("build", () -> real.build(k, n, y, x), () -> model.build(k, n, y, x), k, n, y, x);
        }
    }

    private static long zero(Runnable call) {
        call.run();
        return 0;
    }

    private void call(String name, LongSupplier ofReal, LongSupplier ofModel, long... args) {
        if (fault != null) {
            return;
        }
        String got = outcome(ofReal);
        String due = outcome(ofModel);
        told.append(name);
        for (long arg : args) {
            told.append(' ').append(arg);
        }
        told.append(" -> ").append(due).append('\n');
        if (!got.equals(due)) {
            fault = "answered " + got;
        }
    }

    private static String outcome(LongSupplier call) {
        try {
            return Long.toString(call.getAsLong());
        } catch (RuntimeException e) {
            // The machine's own division by 0 tells itself by these words.
            boolean machine = "/ by zero".equals(e.getMessage());
            return machine ? "the machine threw" : e.getClass().getSimpleName();
        }
    }

    private void compareAll() {
        for (int what = 0; what <= 3; what++) {
            int here = what;
            call("count", () -> real.count(here), () -> model.count(here), what);
        }
        for (int slot = 0; slot < 24 && fault == null; slot++) {
            int s = slot;
            Thing thing = model.slots[slot];
            call("kind", () -> real.kind(s), () -> model.kind(s), s);
            if (thing == null || thing.kind == 6) {
                continue;
            }
            call("size", () -> real.size(s), () -> model.size(s), s);
            if (thing.kind == 4 || thing.kind == 5) {
                comparePops(slot);
                continue;
            }
            for (int i = 0; i < thing.size(); i++) {
                int place = i;
                call("at", () -> real.at(s, place), () -> model.at(s, place), s, place);
                if (thing.kind != 0) {
                    long key = model.at(s, place);
                    call("find", () -> real.find(s, key), () -> model.find(s, key), s, key);
                }
            }
        }
    }

    /** Slot 0 is used for it, in both. */
    private void comparePops(int slot) {
        int total = model.slots[slot].size();
        call("copy", () -> zero(() -> real.copy(0, slot)), () -> model.copy(0, slot), 0, slot);
        for (int i = 0; i < total; i++) {
            call("pop", () -> real.pop(0, 0), () -> model.pop(0, 0), 0, 0);
        }
    }

    // ---------------------------------------------------------------- the model

    private static final class Link {
        final long first;
        final Cell rest;

        Link(long first, Cell rest) {
            this.first = first;
            this.rest = rest;
        }
    }

    private static final class Cell {
        private final Model model;
        private Supplier<Link> work;
        private Link link;

        Cell(Model model, Supplier<Link> work) {
            this.model = model;
            this.work = work;
        }

        static Cell known(Link link) {
            Cell cell = new Cell(null, null);
            cell.link = link;
            return cell;
        }

        Link get() {
            if (work != null) {
                model.takeMoves(1);
                link = work.get();
                work = null;
            }
            return link;
        }
    }

    /** What a slot or builder holds: elements, or keys with values, or a stream. */
    private static final class Thing {
        final int kind;
        final List<Long> elements = new ArrayList<>();
        final TreeMap<Long, Long> entries = new TreeMap<>();
        List<Long> order;
        Link stream;
        int depth;

        Thing(int kind) {
            this.kind = kind;
        }

        Thing fresh() {
            Thing thing = new Thing(kind);
            thing.elements.addAll(elements);
            thing.entries.putAll(entries);
            return thing;
        }

        int size() {
            return elements.size() + entries.size();
        }
    }

    private static final class Model {
        final int grain;
        final Thing[] slots = new Thing[24];
        final Thing[] builders = new Thing[4];
        int calls;
        int moves;

        Model(int grain) {
            this.grain = grain;
        }

        static void check(boolean fine) {
            if (!fine) {
                throw new IllegalArgumentException();
            }
        }

        static void there(boolean fine) {
            if (!fine) {
                throw new NoSuchElementException();
            }
        }

        static void room(boolean fine) {
            if (!fine) {
                throw new IndexOutOfBoundsException();
            }
        }

        static void slotFine(int... numbers) {
            for (int slot : numbers) {
                check(slot >= 0 && slot < 24);
            }
        }

        void takeMoves(int n) {
            room(moves + n <= 20000);
            moves += n;
        }

        Thing read(int slot, String kinds) {
            Thing thing = slots[slot];
            if (thing == null || kinds.indexOf('0' + thing.kind) < 0) {
                throw new IllegalStateException();
            }
            return thing;
        }

        void roomFor(Thing thing) {
            room(thing.size() <= 1000);
            if (thing.kind == 1 || thing.kind == 2) {
                TreeMap<Integer, Integer> often = new TreeMap<>();
                for (long key : thing.entries.keySet()) {
                    room(often.merge(hash(key), 1, Integer::sum) <= 16);
                }
            }
        }

        int hash(long key) {
            return grain == 0 ? (int) key : grain == 1 ? (int) (key & 255) : 0;
        }

        int hold(int slot, Thing thing) {
            slots[slot] = thing;
            return thing.size();
        }

        long make(int slot, int kind) {
            slotFine(slot);
            check(kind >= 0 && kind <= 6);
            return hold(slot, new Thing(kind)) * 0;
        }

        long copy(int slot, int from) {
            slotFine(slot, from);
            return hold(slot, read(from, "0123456")) * 0;
        }

        long size(int slot) {
            slotFine(slot);
            return read(slot, "012345").size();
        }

        long kind(int slot) {
            slotFine(slot);
            return slots[slot] == null ? -1 : slots[slot].kind;
        }

        long add(int slot, int from, long v) {
            slotFine(slot, from);
            Thing thing = read(from, "0245").fresh();
            if (thing.kind == 2) {
                thing.entries.put(v, 1L);
            } else {
                thing.elements.add(v);
            }
            roomFor(thing);
            return hold(slot, thing);
        }

        long push(int slot, int from, long v) {
            slotFine(slot, from);
            Thing old = read(from, "06");
            if (old.kind == 6) {
                return holdStream(slot, new Link(v, Cell.known(old.stream)), old.depth);
            }
            Thing thing = old.fresh();
            thing.elements.add(0, v);
            roomFor(thing);
            return hold(slot, thing) * 0;
        }

        long holdStream(int slot, Link stream, int depth) {
            room(depth <= 100);
            Thing thing = new Thing(6);
            thing.stream = stream;
            thing.depth = depth;
            return hold(slot, thing);
        }

        long set(int slot, int from, int i, long v) {
            slotFine(slot, from);
            Thing thing = read(from, "0").fresh();
            there(i >= 0 && i < thing.size());
            long before = thing.elements.set(i, v);
            hold(slot, thing);
            return before;
        }

        long at(int slot, int i) {
            slotFine(slot);
            check(i >= 0);
            Thing thing = read(slot, "01236");
            if (thing.kind == 6) {
                Link link = thing.stream;
                for (int n = 0; n < i && link != null; n++) {
                    link = link.rest.get();
                }
                there(link != null);
                return link.first;
            }
            there(i < thing.size());
            return thing.kind == 0 ? thing.elements.get(i) : keysInOrder(thing).get(i);
        }

        long drop(int slot, int from, int n, boolean front) {
            slotFine(slot, from);
            check(n >= 0);
            Thing old = read(from, "0");
            there(n <= old.size());
            Thing thing = new Thing(0);
            thing.elements.addAll(front ? old.elements.subList(n, old.size())
                    : old.elements.subList(0, old.size() - n));
            return hold(slot, thing);
        }

        long pop(int slot, int from) {
            slotFine(slot, from);
            Thing old = read(from, "0456");
            if (old.kind == 6) {
                there(old.stream != null);
                holdStream(slot, old.stream.rest.get(), old.depth);
                return old.stream.first;
            }
            there(old.size() > 0);
            Thing thing = old.fresh();
            int place = old.kind == 0 ? old.size() - 1
                    : old.kind == 4 ? 0 : old.elements.indexOf(Collections.min(old.elements));
            long gone = thing.elements.remove(place);
            hold(slot, thing);
            return gone;
        }

        long front(int slot) {
            slotFine(slot);
            Thing thing = read(slot, "456");
            if (thing.kind == 6) {
                there(thing.stream != null);
                return thing.stream.first;
            }
            there(thing.size() > 0);
            return thing.kind == 4 ? thing.elements.get(0) : Collections.min(thing.elements);
        }

        long put(int slot, int from, long key, long v) {
            slotFine(slot, from);
            Thing thing = read(from, "13").fresh();
            thing.entries.put(key, v);
            roomFor(thing);
            return hold(slot, thing);
        }

        long find(int slot, long key) {
            slotFine(slot);
            Thing thing = read(slot, "123");
            there(thing.entries.containsKey(key));
            return thing.entries.get(key);
        }

        long out(int slot, int from, long key) {
            slotFine(slot, from);
            Thing thing = read(from, "123").fresh();
            thing.entries.remove(key);
            return hold(slot, thing);
        }

        long near(int slot, long key, int way) {
            slotFine(slot);
            check(way >= 0 && way <= 3);
            TreeMap<Long, Long> entries = read(slot, "3").entries;
            Long found = way == 0 ? entries.lowerKey(key) : way == 1 ? entries.floorKey(key)
                    : way == 2 ? entries.ceilingKey(key) : entries.higherKey(key);
            there(found != null);
            return found;
        }

        long range(int slot, int from, long low, long high) {
            slotFine(slot, from);
            Thing old = read(from, "3");
            takeMoves(old.size());
            Thing thing = new Thing(3);
            if (low < high) {
                thing.entries.putAll(old.entries.subMap(low, true, high, false));
            }
            return hold(slot, thing);
        }

        long join(int slot, int a, int b) {
            slotFine(slot, a, b);
            Thing one = read(a, "0123456");
            Thing other = read(b, Integer.toString(one.kind));
            if (one.kind == 6) {
                return holdStream(slot, joined(one.stream, other.stream), 1 + Math.max(one.depth, other.depth));
            }
            Thing thing = one.fresh();
            thing.elements.addAll(other.elements);
            thing.entries.putAll(other.entries);
            roomFor(thing);
            takeMoves(one.kind == 5 ? 0 : one.size() + other.size());
            return hold(slot, thing);
        }

        Link joined(Link a, Link b) {
            return a == null ? b : new Link(a.first, new Cell(this, () -> joined(a.rest.get(), b)));
        }

        long meet(int slot, int a, int b, boolean less) {
            slotFine(slot, a, b);
            Thing one = read(a, "2");
            Thing other = read(b, "2");
            takeMoves(one.size());
            Thing thing = one.fresh();
            if (less) {
                thing.entries.keySet().removeAll(other.entries.keySet());
            } else {
                thing.entries.keySet().retainAll(other.entries.keySet());
            }
            return hold(slot, thing);
        }

        long shape(int slot) {
            slotFine(slot);
            return shape(new ArrayList<>(read(slot, "12").entries.keySet()), 0);
        }

        int shape(List<Long> keys, int level) {
            if (level == 7) {
                return 7 + keys.size();
            }
            int keyBits = 0;
            int nodeBits = 0;
            List<Integer> below = new ArrayList<>();
            for (int number = 0; number < 32; number++) {
                List<Long> group = group(keys, level, number);
                if (group.size() == 1) {
                    keyBits |= 1 << number;
                } else if (group.size() > 1) {
                    nodeBits |= 1 << number;
                    below.add(shape(group, level + 1));
                }
            }
            int s = (17 * 31 + keyBits) * 31 + nodeBits;
            for (int shape : below) {
                s = 31 * s + shape;
            }
            return s;
        }

        List<Long> group(List<Long> keys, int level, int number) {
            List<Long> group = new ArrayList<>();
            for (long key : keys) {
                long bits = (hash(key) & 0xFFFFFFFFL) >> 5 * level;
                if (bits % 32 == number) {
                    group.add(key);
                }
            }
            return group;
        }

        List<Long> keysInOrder(Thing thing) {
            if (thing.order == null) {
                List<Long> keys = new ArrayList<>(thing.entries.keySet());
                thing.order = thing.kind == 3 ? keys : ordered(keys, 0);
            }
            return thing.order;
        }

        List<Long> ordered(List<Long> keys, int level) {
            if (level == 7) {
                return keys;
            }
            List<Long> all = new ArrayList<>();
            List<Long> deep = new ArrayList<>();
            for (int number = 0; number < 32; number++) {
                List<Long> group = group(keys, level, number);
                if (group.size() == 1) {
                    all.addAll(group);
                } else if (group.size() > 1) {
                    deep.addAll(ordered(group, level + 1));
                }
            }
            all.addAll(deep);
            return all;
        }

        long same(int a, int b) {
            slotFine(a, b);
            Thing one = read(a, "012345");
            Thing other = read(b, Integer.toString(one.kind));
            takeMoves(one.size() + other.size());
            List<Long> left = new ArrayList<>(one.elements);
            List<Long> right = new ArrayList<>(other.elements);
            if (one.kind == 5) {
                Collections.sort(left);
                Collections.sort(right);
            }
            return left.equals(right) && one.entries.equals(other.entries) ? 1 : 0;
        }

        static long apply(int f, long x, long c) {
            if ((f == 4 || f == 6) && c == 0 || f == 5 && x == 0) {
                throw new ArithmeticException();
            }
            return f == 0 ? x + c : f == 1 ? x * c : f == 2 ? x & c : f == 3 ? x ^ c
                    : f == 4 ? x / c : f == 5 ? c / x : x % c;
        }

        static boolean test(int test, long x, long c) {
            if (test == 3 && c == 0) {
                throw new ArithmeticException();
            }
            return test == 0 ? x < c : test == 1 ? (x & c) != 0 : test == 2 ? x == c : test == 4 || x % c == 0;
        }

        long map(int slot, int from, int f, long c) {
            slotFine(slot, from);
            check(f >= 0 && f <= 6);
            Thing old = read(from, "06");
            if (old.kind == 6) {
                return holdStream(slot, mapped(old.stream, f, c), old.depth + 1);
            }
            Thing thing = new Thing(0);
            for (long x : old.elements) {
                thing.elements.add(apply(f, x, c));
            }
            takeMoves(old.size());
            return hold(slot, thing) * 0;
        }

        Link mapped(Link link, int f, long c) {
            if (link == null) {
                return null;
            }
            calls++;
            return new Link(apply(f, link.first, c), new Cell(this, () -> mapped(link.rest.get(), f, c)));
        }

        long filter(int slot, int from, int test, long c) {
            slotFine(slot, from);
            check(test >= 0 && test <= 4);
            Thing old = read(from, "026");
            if (old.kind == 6) {
                return holdStream(slot, sifted(old.stream, test, c), old.depth + 1);
            }
            Thing thing = new Thing(old.kind);
            for (long x : old.elements) {
                if (test(test, x, c)) {
                    thing.elements.add(x);
                }
            }
            for (Map.Entry<Long, Long> entry : old.entries.entrySet()) {
                if (test(test, entry.getKey(), c)) {
                    thing.entries.put(entry.getKey(), 1L);
                }
            }
            takeMoves(old.size());
            return hold(slot, thing) * 0;
        }

        Link sifted(Link link, int test, long c) {
            Link here = link;
            int looked = 0;
            while (here != null) {
                calls++;
                looked++;
                if (test(test, here.first, c)) {
                    Link found = here;
                    return new Link(found.first, new Cell(this, () -> sifted(found.rest.get(), test, c)));
                }
                if (looked == 1000) {
                    return null;
                }
                here = here.rest.get();
            }
            return null;
        }

        long iterate(int slot, long v, int f, long c) {
            slotFine(slot);
            check(f >= 0 && f <= 6);
            return holdStream(slot, iterated(v, f, c), 0);
        }

        Link iterated(long v, int f, long c) {
            return new Link(v, new Cell(this, () -> {
                calls++;
                return iterated(apply(f, v, c), f, c);
            }));
        }

        long take(int slot, int from, int n) {
            slotFine(slot, from);
            check(n >= 0);
            Thing old = read(from, "6");
            return holdStream(slot, taken(old.stream, n), old.depth + 1);
        }

        Link taken(Link link, int n) {
            if (link == null || n == 0) {
                return null;
            }
            Cell rest = n == 1 ? Cell.known(null) : new Cell(this, () -> taken(link.rest.get(), n - 1));
            return new Link(link.first, rest);
        }

        long list(int slot, int from, int n) {
            slotFine(slot, from);
            check(n >= 0 && n <= 1000);
            Link link = read(from, "6").stream;
            Thing thing = new Thing(0);
            while (link != null && thing.size() < n) {
                thing.elements.add(link.first);
                link = thing.size() < n ? link.rest.get() : null;
            }
            takeMoves(n);
            return hold(slot, thing);
        }

        long turn(int slot, int from) {
            slotFine(slot, from);
            Thing old = read(from, "0123");
            if (old.kind == 0) {
                return holdStream(slot, turned(old.elements, 0), 0);
            }
            takeMoves(old.size());
            Thing thing = new Thing(0);
            for (long key : keysInOrder(old)) {
                thing.elements.add(old.kind == 2 ? key : old.entries.get(key));
            }
            return hold(slot, thing) * 0;
        }

        Link turned(List<Long> row, int i) {
            return i >= row.size() ? null : new Link(row.get(i), new Cell(this, () -> turned(row, i + 1)));
        }

        static void builderFine(int b) {
            check(b >= 0 && b <= 3);
        }

        Thing opened(int b) {
            if (builders[b] == null) {
                throw new IllegalStateException();
            }
            return builders[b];
        }

        long open(int b, int from) {
            builderFine(b);
            slotFine(from);
            Thing thing = read(from, "012");
            if (builders[b] != null) {
                throw new IllegalStateException();
            }
            builders[b] = thing.fresh();
            return 0;
        }

        long build(int b, int what, long key, long v) {
            builderFine(b);
            check(what >= 0 && what <= 2);
            Thing thing = opened(b).fresh();
            if (thing.kind == 0) {
                if (what == 0) {
                    thing.elements.add(v);
                } else if (what == 1) {
                    there(key >= 0 && key < thing.size());
                    thing.elements.set((int) key, v);
                } else {
                    there(thing.size() > 0);
                    thing.elements.remove(thing.size() - 1);
                }
            } else if (what == 0) {
                thing.entries.put(key, thing.kind == 2 ? 1 : v);
            } else if (what == 1) {
                throw new UnsupportedOperationException();
            } else {
                thing.entries.remove(key);
            }
            roomFor(thing);
            builders[b] = thing;
            return thing.size();
        }

        long look(int b, long i) {
            builderFine(b);
            Thing thing = opened(b);
            if (thing.kind == 0) {
                there(i >= 0 && i < thing.size());
                return thing.elements.get((int) i);
            }
            there(thing.entries.containsKey(i));
            return thing.entries.get(i);
        }

        long freeze(int b, int slot) {
            builderFine(b);
            slotFine(slot);
            Thing thing = opened(b);
            builders[b] = null;
            return hold(slot, thing);
        }

        long count(int what) {
            check(what >= 0 && what <= 3);
            int open = 0;
            for (Thing builder : builders) {
                open += builder == null ? 0 : 1;
            }
            return what == 0 ? calls : what == 1 ? moves : what == 2 ? open : 0;
        }
    }
}
