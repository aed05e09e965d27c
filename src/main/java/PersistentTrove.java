import java.util.NoSuchElementException;

/**
 * Collections that never change: each call makes a new one that shares what it can with the old one.
 *
 * In every structure below, null stands for the empty one, so that an empty collection costs nothing.
 */
public final class PersistentTrove {
    private static final int SEQUENCE = 0;
    private static final int MAP = 1;
    private static final int SET = 2;
    private static final int TREE = 3;
    private static final int QUEUE = 4;
    private static final int HEAP = 5;
    private static final int STREAM = 6;

    private static final int SEQUENCES = 1 << SEQUENCE;
    private static final int MAPS = 1 << MAP;
    private static final int SETS = 1 << SET;
    private static final int TREES = 1 << TREE;
    private static final int QUEUES = 1 << QUEUE;
    private static final int HEAPS = 1 << HEAP;
    private static final int STREAMS = 1 << STREAM;
    private static final int ALL_BUT_STREAMS = SEQUENCES | MAPS | SETS | TREES | QUEUES | HEAPS;
    private static final int ALL_KINDS = ALL_BUT_STREAMS | STREAMS;

    private static final int SLOT_COUNT = 24;
    private static final int BUILDER_COUNT = 4;
    private static final int SIZE_LIMIT = 1000;
    private static final int MOVE_LIMIT = 20000;
    private static final int DEPTH_LIMIT = 100;
    private static final int ALIKE_LIMIT = 16;
    private static final int LOOK_LIMIT = 1000;

    private static final int LAST_FUNCTION = 6;
    private static final int LAST_TEST = 4;
    private static final int LAST_WAY = 3;

    /** A SET keeps its keys as a MAP would, each with this value, which is what find answers. */
    private static final long PRESENT = 1;

    private static final int BUILD_ADD = 0;
    private static final int BUILD_SET = 1;
    private static final int BUILD_DROP = 2;

    private static final int COUNT_CALLS = 0;
    private static final int COUNT_MOVES = 1;
    private static final int COUNT_OPEN = 2;
    private static final int COUNT_UNSOUND = 3;

    private final int hashMask;
    private final Held[] slots = new Held[SLOT_COUNT];
    private final Builder[] builders = new Builder[BUILDER_COUNT];
    // Scratch rows, used again by every call that goes over whole collections.
    private final long[] keyRow = new long[SIZE_LIMIT];
    private final long[] valueRow = new long[SIZE_LIMIT];
    private int calls;
    private int moves;
    private int edits;

    public PersistentTrove(int grain) {
        int remainder = Math.floorMod(grain, 3);
        hashMask = remainder == 0 ? -1 : remainder == 1 ? 255 : 0;
        for (int b = 0; b < BUILDER_COUNT; b++) {
            builders[b] = new Builder();
        }
    }

    // ---------------------------------------------------------------- all kinds

    public void make(int slot, int kind) throws IllegalArgumentException {
        needSlot(slot);
        needWithin(kind, STREAM);
        keep(slot, Held.emptyOf(kind));
    }

    public void copy(int slot, int from) throws IllegalArgumentException, IllegalStateException {
        needSlot(slot);
        keep(slot, heldIn(from, ALL_KINDS));
    }

    public int size(int slot) throws IllegalArgumentException, IllegalStateException {
        return heldIn(slot, ALL_BUT_STREAMS).amount();
    }

    public int kind(int slot) throws IllegalArgumentException {
        needSlot(slot);
        Held held = slots[slot];
        return held == null ? -1 : held.kind;
    }

    // ---------------------------------------------------------------- elements

    public int add(int slot, int from, long v)
            throws IllegalArgumentException, IllegalStateException, IndexOutOfBoundsException {
        needSlot(slot);
        Held held = heldIn(from, SEQUENCES | QUEUES | HEAPS | SETS);
        if (held.kind == SET) {
            return keep(slot, Held.ofTrie(held.kind, withHashed(held.trie, nextEdit(), v, PRESENT)));
        }
        needRoom(held.amount() + 1);
        if (held.kind == HEAP) {
            return keep(slot, Held.ofPile(Pile.merged(held.pile, new Pile(v, null, null))));
        }
        return keep(slot, Held.ofTree(held.kind, Branch.linked(held.tree, 0, v, null)));
    }

    public void push(int slot, int from, long v)
            throws IllegalArgumentException, IllegalStateException, IndexOutOfBoundsException {
        needSlot(slot);
        Held held = heldIn(from, SEQUENCES | STREAMS);
        if (held.kind == STREAM) {
            keep(slot, Held.ofStream(Stream.given(v, held.stream), held.depth));
            return;
        }
        needRoom(held.amount() + 1);
        keep(slot, Held.ofTree(held.kind, Branch.linked(null, 0, v, held.tree)));
    }

    public long set(int slot, int from, int i, long v)
            throws IllegalArgumentException, IllegalStateException, NoSuchElementException {
        needSlot(slot);
        Held held = heldIn(from, SEQUENCES);
        long before = needBranch(Branch.branchAt(held.tree, i)).value;
        keep(slot, Held.ofTree(held.kind, Branch.withValueAt(held.tree, i, v)));
        return before;
    }

    public long at(int slot, int i)
            throws IllegalArgumentException, IllegalStateException, NoSuchElementException,
            ArithmeticException, IndexOutOfBoundsException {
        needSlot(slot);
        needNotNegative(i);
        Held held = heldIn(slot, SEQUENCES | STREAMS | MAPS | SETS | TREES);
        switch (held.kind) {
            case STREAM:
                return needStream(streamAfter(held.stream, i)).first;
            case SEQUENCE:
                return needBranch(Branch.branchAt(held.tree, i)).value;
            case TREE:
                return needBranch(Branch.branchAt(held.tree, i)).key;
            default:
                return hashedKeyAt(held.trie, i);
        }
    }

    public int drop(int slot, int from, int n, boolean front)
            throws IllegalArgumentException, IllegalStateException, NoSuchElementException {
        needSlot(slot);
        needSlot(from);
        needNotNegative(n);
        Held held = heldIn(from, SEQUENCES);
        int left = held.amount() - n;
        needThere(left >= 0);
        Branch rest = front ? Branch.withoutFirst(held.tree, n) : Branch.firstOf(held.tree, left);
        return keep(slot, Held.ofTree(held.kind, rest));
    }

    public long pop(int slot, int from)
            throws IllegalArgumentException, IllegalStateException, NoSuchElementException,
            ArithmeticException, IndexOutOfBoundsException {
        needSlot(slot);
        Held held = heldIn(from, QUEUES | SEQUENCES | HEAPS | STREAMS);
        if (held.kind == STREAM) {
            Stream stream = needStream(held.stream);
            keep(slot, Held.ofStream(restOf(stream), held.depth));
            return stream.first;
        }
        if (held.kind == HEAP) {
            Pile pile = needPile(held.pile);
            keep(slot, Held.ofPile(Pile.merged(pile.left, pile.right)));
            return pile.value;
        }
        boolean first = held.kind == QUEUE;
        int last = held.amount() - 1;
        long gone = needBranch(Branch.branchAt(held.tree, first ? 0 : last)).value;
        keep(slot, Held.ofTree(held.kind, first ? Branch.withoutFirst(held.tree, 1) : Branch.firstOf(held.tree, last)));
        return gone;
    }

    public long front(int slot)
            throws IllegalArgumentException, IllegalStateException, NoSuchElementException {
        Held held = heldIn(slot, QUEUES | HEAPS | STREAMS);
        switch (held.kind) {
            case STREAM:
                return needStream(held.stream).first;
            case HEAP:
                return needPile(held.pile).value;
            default:
                return needBranch(Branch.branchAt(held.tree, 0)).value;
        }
    }

    // ---------------------------------------------------------------- keys

    public int put(int slot, int from, long key, long v)
            throws IllegalArgumentException, IllegalStateException, IndexOutOfBoundsException {
        needSlot(slot);
        Held held = heldIn(from, MAPS | TREES);
        if (held.kind == MAP) {
            return keep(slot, Held.ofTrie(held.kind, withHashed(held.trie, nextEdit(), key, v)));
        }
        if (Branch.branchWith(held.tree, key) == null) {
            needRoom(held.amount() + 1);
        }
        return keep(slot, Held.ofTree(held.kind, Branch.withKey(held.tree, key, v)));
    }

    public long find(int slot, long key)
            throws IllegalArgumentException, IllegalStateException, NoSuchElementException {
        Held held = heldIn(slot, MAPS | TREES | SETS);
        if (held.kind == TREE) {
            return needBranch(Branch.branchWith(held.tree, key)).value;
        }
        return hashedValue(held.trie, key);
    }

    public int out(int slot, int from, long key) throws IllegalArgumentException, IllegalStateException {
        needSlot(slot);
        Held held = heldIn(from, MAPS | TREES | SETS);
        if (held.kind == TREE) {
            return keep(slot, Held.ofTree(held.kind, Branch.withoutKey(held.tree, key)));
        }
        return keep(slot, Held.ofTrie(held.kind, Node.removed(held.trie, nextEdit(), hashMask, key)));
    }

    public long near(int slot, long key, int way)
            throws IllegalArgumentException, IllegalStateException, NoSuchElementException {
        needSlot(slot);
        needWithin(way, LAST_WAY);
        return needBranch(Branch.nearest(heldIn(slot, TREES).tree, key, way)).key;
    }

    public int range(int slot, int from, long low, long high)
            throws IllegalArgumentException, IllegalStateException, IndexOutOfBoundsException {
        needSlot(slot);
        Held held = heldIn(from, TREES);
        takeMoves(held.amount());
        Branch kept = low < high ? Branch.below(Branch.above(held.tree, low, true), high) : null;
        return keep(slot, Held.ofTree(held.kind, kept));
    }

    // ---------------------------------------------------------------- two at once

    public int join(int slot, int a, int b)
            throws IllegalArgumentException, IllegalStateException, IndexOutOfBoundsException {
        needSlot(slot);
        needSlot(a);
        needSlot(b);
        Held one = heldIn(a, ALL_KINDS);
        Held other = heldIn(b, 1 << one.kind);
        switch (one.kind) {
            case STREAM:
                return keep(slot, joinedStreams(one, other));
            case HEAP:
                needRoom(one.amount() + other.amount());
                return keep(slot, Held.ofPile(Pile.merged(one.pile, other.pile)));
            case TREE:
                return keep(slot, joinedTrees(one, other));
            case MAP:
            case SET:
                return keep(slot, joinedTries(one, other));
            default:
                needRoom(one.amount() + other.amount());
                takeMoves(one.amount() + other.amount());
                return keep(slot, Held.ofTree(one.kind, Branch.chained(one.tree, other.tree)));
        }
    }

    public int meet(int slot, int a, int b, boolean less)
            throws IllegalArgumentException, IllegalStateException, IndexOutOfBoundsException {
        needSlot(slot);
        needSlot(a);
        needSlot(b);
        Held one = heldIn(a, SETS);
        Held other = heldIn(b, SETS);
        int total = one.amount();
        takeMoves(total);
        Node.pourKeys(one.trie, keyRow, 0);
        int gone = 0;
        for (int i = 0; i < total; i++) {
            if (Node.holds(other.trie, hashMask, keyRow[i]) == less) {
                keyRow[gone] = keyRow[i];
                gone++;
            }
        }
        return keep(slot, Held.ofTrie(one.kind, withoutRow(one.trie, gone)));
    }

    public int shape(int slot) throws IllegalArgumentException, IllegalStateException {
        return Node.shapeOf(heldIn(slot, MAPS | SETS).trie);
    }

    public boolean same(int a, int b)
            throws IllegalArgumentException, IllegalStateException, IndexOutOfBoundsException {
        needSlot(a);
        needSlot(b);
        Held one = heldIn(a, ALL_BUT_STREAMS);
        Held other = heldIn(b, 1 << one.kind);
        takeMoves(one.amount() + other.amount());
        switch (one.kind) {
            case MAP:
            case SET:
                return Node.alike(one.trie, other.trie);
            case HEAP:
                return samePiles(one.pile, other.pile);
            default:
                return Branch.alike(one.tree, other.tree);
        }
    }

    // ---------------------------------------------------------------- functions and tests

    public void map(int slot, int from, int f, long c)
            throws IllegalArgumentException, IllegalStateException, ArithmeticException,
            IndexOutOfBoundsException {
        needSlot(slot);
        needSlot(from);
        needWithin(f, LAST_FUNCTION);
        Held held = heldIn(from, SEQUENCES | STREAMS);
        if (held.kind == STREAM) {
            Stream mapped = mappedFrom(held.stream, f, c);
            keep(slot, Held.ofStream(mapped, deeperThan(held.depth)));
            return;
        }
        int total = held.amount();
        Branch.pourValues(held.tree, valueRow, 0);
        for (int i = 0; i < total; i++) {
            valueRow[i] = applied(f, valueRow[i], c);
        }
        takeMoves(total);
        keep(slot, Held.ofTree(held.kind, Branch.ofRow(valueRow, 0, total)));
    }

    public void filter(int slot, int from, int test, long c)
            throws IllegalArgumentException, IllegalStateException, ArithmeticException,
            IndexOutOfBoundsException {
        needSlot(slot);
        needSlot(from);
        needWithin(test, LAST_TEST);
        Held held = heldIn(from, SEQUENCES | SETS | STREAMS);
        if (held.kind == STREAM) {
            Stream sifted = siftedFrom(held.stream, test, c);
            keep(slot, Held.ofStream(sifted, deeperThan(held.depth)));
            return;
        }
        keep(slot, held.kind == SET ? siftedSet(held, test, c) : siftedSequence(held, test, c));
    }

    // ---------------------------------------------------------------- streams

    public void iterate(int slot, long v, int f, long c) throws IllegalArgumentException {
        needSlot(slot);
        needWithin(f, LAST_FUNCTION);
        keep(slot, Held.ofStream(Stream.iterated(v, f, c), 0));
    }

    public void take(int slot, int from, int n)
            throws IllegalArgumentException, IllegalStateException, IndexOutOfBoundsException {
        needSlot(slot);
        needSlot(from);
        needNotNegative(n);
        Held held = heldIn(from, STREAMS);
        keep(slot, Held.ofStream(Stream.taken(held.stream, n), deeperThan(held.depth)));
    }

    public int list(int slot, int from, int n)
            throws IllegalArgumentException, IllegalStateException, ArithmeticException,
            IndexOutOfBoundsException {
        needSlot(slot);
        needSlot(from);
        needWithin(n, SIZE_LIMIT);
        Stream here = heldIn(from, STREAMS).stream;
        int total = 0;
        while (total < n && here != null) {
            valueRow[total] = here.first;
            total++;
            // The cell behind the last one is not needed, so it is left alone.
            here = total < n ? restOf(here) : null;
        }
        takeMoves(n);
        return keep(slot, sequenceOfValues(total));
    }

    public void turn(int slot, int from)
            throws IllegalArgumentException, IllegalStateException, IndexOutOfBoundsException {
        needSlot(slot);
        Held held = heldIn(from, SEQUENCES | MAPS | TREES | SETS);
        if (held.kind == SEQUENCE) {
            keep(slot, Held.ofStream(Stream.turned(held.tree, 0), 0));
            return;
        }
        int total = held.amount();
        takeMoves(total);
        if (held.kind == TREE) {
            Branch.pourValues(held.tree, valueRow, 0);
        } else if (held.kind == MAP) {
            Node.pourValues(held.trie, valueRow, 0);
        } else {
            Node.pourKeys(held.trie, valueRow, 0);
        }
        keep(slot, sequenceOfValues(total));
    }

    // ---------------------------------------------------------------- builders

    public void open(int b, int from) throws IllegalArgumentException, IllegalStateException {
        needWithin(b, BUILDER_COUNT - 1);
        Held held = heldIn(from, SEQUENCES | MAPS | SETS);
        Builder builder = builders[b];
        if (builder.isOpen) {
            throw new IllegalStateException("the builder is open");
        }
        builder.start(held, nextEdit());
    }

    public int build(int b, int what, long key, long v)
            throws IllegalArgumentException, IllegalStateException, UnsupportedOperationException,
            NoSuchElementException, IndexOutOfBoundsException {
        needWithin(b, BUILDER_COUNT - 1);
        needWithin(what, BUILD_DROP);
        Builder builder = openBuilder(b);
        if (builder.kind == SEQUENCE) {
            buildSequence(builder, what, key, v);
        } else {
            buildHashed(builder, what, key, v);
        }
        return builder.amount();
    }

    public long look(int b, long i)
            throws IllegalArgumentException, IllegalStateException, NoSuchElementException {
        needWithin(b, BUILDER_COUNT - 1);
        Builder builder = openBuilder(b);
        if (builder.kind == SEQUENCE) {
            return builder.row[needPlace(builder, i)];
        }
        return hashedValue(builder.root, i);
    }

    public int freeze(int b, int slot) throws IllegalArgumentException, IllegalStateException {
        needWithin(b, BUILDER_COUNT - 1);
        needSlot(slot);
        return keep(slot, openBuilder(b).finished());
    }

    // ---------------------------------------------------------------- counts

    public int count(int what) throws IllegalArgumentException {
        needWithin(what, COUNT_UNSOUND);
        switch (what) {
            case COUNT_CALLS:
                return calls;
            case COUNT_MOVES:
                return moves;
            case COUNT_OPEN:
                return openBuilders();
            default:
                return unsoundSlots();
        }
    }

    private int openBuilders() {
        int found = 0;
        for (Builder builder : builders) {
            if (builder.isOpen) {
                found++;
            }
        }
        return found;
    }

    private int unsoundSlots() {
        int found = 0;
        for (Held held : slots) {
            if (held != null && !held.isSound(hashMask)) {
                found++;
            }
        }
        return found;
    }

    // ---------------------------------------------------------------- what a call needs

    private static void needWithin(int number, int most) {
        if (number < 0 || number > most) {
            throw new IllegalArgumentException("a number is out of range");
        }
    }

    private static void needSlot(int slot) {
        needWithin(slot, SLOT_COUNT - 1);
    }

    private static void needNotNegative(int number) {
        needWithin(number, Integer.MAX_VALUE);
    }

    private static void needThere(boolean there) {
        if (!there) {
            throw new NoSuchElementException("there is none");
        }
    }

    private static Branch needBranch(Branch branch) {
        needThere(branch != null);
        return branch;
    }

    private static Pile needPile(Pile pile) {
        needThere(pile != null);
        return pile;
    }

    private static Stream needStream(Stream stream) {
        needThere(stream != null);
        return stream;
    }

    private static int needPlace(Builder builder, long i) {
        needThere(i >= 0 && i < builder.length);
        return (int) i;
    }

    private static void needRoom(int amount) {
        if (amount > SIZE_LIMIT) {
            throw new IndexOutOfBoundsException("more elements than a collection may have");
        }
    }

    private static void needFewAlike(int alike) {
        if (alike > ALIKE_LIMIT) {
            throw new IndexOutOfBoundsException("more keys of one hash than there may be");
        }
    }

    private static int deeperThan(int depth) {
        if (depth >= DEPTH_LIMIT) {
            throw new IndexOutOfBoundsException("deeper than a stream may be");
        }
        return depth + 1;
    }

    private void takeMoves(int amount) {
        if (amount > MOVE_LIMIT - moves) {
            throw new IndexOutOfBoundsException("more moves than there may be");
        }
        moves += amount;
    }

    private Held heldIn(int slot, int kinds) {
        needSlot(slot);
        Held held = slots[slot];
        if (held == null || (kinds >> held.kind & 1) == 0) {
            throw new IllegalStateException("the slot holds none of this kind");
        }
        return held;
    }

    private Builder openBuilder(int b) {
        Builder builder = builders[b];
        if (!builder.isOpen) {
            throw new IllegalStateException("the builder is not open");
        }
        return builder;
    }

    private int keep(int slot, Held held) {
        slots[slot] = held;
        return held.amount();
    }

    /** Nodes that bear the number of an edit may be changed in place as long as that edit goes on. */
    private int nextEdit() {
        edits++;
        return edits;
    }

    // ---------------------------------------------------------------- hashed keys

    private Node withHashed(Node root, int edit, long key, long value) {
        if (!Node.holds(root, hashMask, key)) {
            needRoom(Node.totalOf(root) + 1);
            needFewAlike(Node.alikeKeys(root, hashMask, key) + 1);
        }
        return Node.added(root, edit, hashMask, key, value);
    }

    private long hashedValue(Node root, long key) {
        Node home = Node.homeOf(root, hashMask, key);
        int place = home == null ? -1 : home.placeOf(hashMask, key);
        needThere(home != null && place >= 0);
        return home.values[place];
    }

    private static long hashedKeyAt(Node root, int i) {
        needThere(i < Node.totalOf(root));
        return Node.keyAt(root, i);
    }

    private Held joinedTries(Held one, Held other) {
        int total = other.amount();
        Node.pourKeys(other.trie, keyRow, 0);
        Node.pourValues(other.trie, valueRow, 0);
        needRoomForRow(one.trie, total);
        takeMoves(one.amount() + total);
        if (one.trie == null) {
            return other;
        }
        int edit = nextEdit();
        Node joined = one.trie;
        for (int i = 0; i < total; i++) {
            joined = Node.added(joined, edit, hashMask, keyRow[i], valueRow[i]);
        }
        return Held.ofTrie(one.kind, joined);
    }

    /** Looks before anything is made, so that a call that is FULL takes no room. */
    private void needRoomForRow(Node root, int total) {
        int fresh = 0;
        int freshAlike = 0;
        for (int i = 0; i < total; i++) {
            // Keys of one HASH stand side by side in the ORDER.
            if (i > 0 && Node.hashOf(keyRow[i], hashMask) != Node.hashOf(keyRow[i - 1], hashMask)) {
                freshAlike = 0;
            }
            if (!Node.holds(root, hashMask, keyRow[i])) {
                fresh++;
                freshAlike++;
                needFewAlike(Node.alikeKeys(root, hashMask, keyRow[i]) + freshAlike);
            }
        }
        needRoom(Node.totalOf(root) + fresh);
    }

    /** Without the first keys of keyRow. */
    private Node withoutRow(Node root, int total) {
        int edit = nextEdit();
        Node left = root;
        for (int i = 0; i < total; i++) {
            left = Node.removed(left, edit, hashMask, keyRow[i]);
        }
        return left;
    }

    private Held siftedSet(Held held, int test, long c) {
        int total = held.amount();
        Node.pourKeys(held.trie, keyRow, 0);
        int gone = 0;
        for (int i = 0; i < total; i++) {
            if (!passes(test, keyRow[i], c)) {
                keyRow[gone] = keyRow[i];
                gone++;
            }
        }
        takeMoves(total);
        return Held.ofTrie(held.kind, withoutRow(held.trie, gone));
    }

    // ---------------------------------------------------------------- rows, trees and heaps

    private Held sequenceOfValues(int total) {
        return Held.ofTree(SEQUENCE, Branch.ofRow(valueRow, 0, total));
    }

    private Held siftedSequence(Held held, int test, long c) {
        int total = held.amount();
        Branch.pourValues(held.tree, valueRow, 0);
        int kept = 0;
        for (int i = 0; i < total; i++) {
            if (passes(test, valueRow[i], c)) {
                valueRow[kept] = valueRow[i];
                kept++;
            }
        }
        takeMoves(total);
        return sequenceOfValues(kept);
    }

    private Held joinedTrees(Held one, Held other) {
        int both = one.amount() + other.amount();
        needRoom(both - Branch.commonKeys(one.tree, other.tree));
        takeMoves(both);
        return Held.ofTree(one.kind, Branch.united(one.tree, other.tree));
    }

    private boolean samePiles(Pile one, Pile other) {
        int total = Pile.sizeOf(one);
        if (total != Pile.sizeOf(other)) {
            return false;
        }
        Pile.pour(one, keyRow, 0);
        Pile.pour(other, valueRow, 0);
        sort(keyRow, total);
        sort(valueRow, total);
        for (int i = 0; i < total; i++) {
            if (keyRow[i] != valueRow[i]) {
                return false;
            }
        }
        return true;
    }

    /** Heap sort, as it needs no other row. */
    private static void sort(long[] row, int total) {
        for (int top = total / 2 - 1; top >= 0; top--) {
            sink(row, top, total);
        }
        for (int end = total - 1; end > 0; end--) {
            long greatest = row[0];
            row[0] = row[end];
            row[end] = greatest;
            sink(row, 0, end);
        }
    }

    private static void sink(long[] row, int top, int end) {
        int parent = top;
        int child = 2 * parent + 1;
        while (child < end) {
            if (child + 1 < end && row[child + 1] > row[child]) {
                child++;
            }
            if (row[parent] >= row[child]) {
                return;
            }
            long lifted = row[child];
            row[child] = row[parent];
            row[parent] = lifted;
            parent = child;
            child = 2 * parent + 1;
        }
    }

    // ---------------------------------------------------------------- builders within

    private void buildSequence(Builder builder, int what, long key, long v) {
        switch (what) {
            case BUILD_ADD:
                needRoom(builder.length + 1);
                builder.row[builder.length] = v;
                builder.length++;
                break;
            case BUILD_SET:
                builder.row[needPlace(builder, key)] = v;
                break;
            default:
                needThere(builder.length > 0);
                builder.length--;
                break;
        }
    }

    private void buildHashed(Builder builder, int what, long key, long v) {
        switch (what) {
            case BUILD_ADD:
                builder.root = withHashed(builder.root, builder.edit, key, builder.kind == SET ? PRESENT : v);
                break;
            case BUILD_SET:
                throw new UnsupportedOperationException("only elements of a sequence have places");
            default:
                builder.root = Node.removed(builder.root, builder.edit, hashMask, key);
                break;
        }
    }

    // ---------------------------------------------------------------- functions and tests within

    private static long applied(int f, long x, long c) {
        switch (f) {
            case 0:
                return x + c;
            case 1:
                return x * c;
            case 2:
                return x & c;
            case 3:
                return x ^ c;
            case 4:
                needDivisor(c);
                return x / c;
            case 5:
                needDivisor(x);
                return c / x;
            default:
                needDivisor(c);
                return x % c;
        }
    }

    private static boolean passes(int test, long x, long c) {
        switch (test) {
            case 0:
                return x < c;
            case 1:
                return (x & c) != 0;
            case 2:
                return x == c;
            case 3:
                needDivisor(c);
                return x % c == 0;
            default:
                return true;
        }
    }

    private static void needDivisor(long divisor) {
        if (divisor == 0) {
            throw new ArithmeticException("division by 0");
        }
    }

    // ---------------------------------------------------------------- streams within

    private long called(int f, long x, long c) {
        calls++;
        return applied(f, x, c);
    }

    private boolean tested(int test, long x, long c) {
        calls++;
        return passes(test, x, c);
    }

    /**
     * The rest, worked out if it was not yet. A stream's source has a lesser DEPTH than it has, so that
     * DEPTH_LIMIT keeps this recursion low; nothing is kept before all of it has gone well.
     */
    private Stream restOf(Stream stream) {
        if (stream.isDone) {
            return stream.rest;
        }
        takeMoves(1);
        Stream next = stream.source == null ? null : restOf(stream.source);
        switch (stream.way) {
            case Stream.ITERATED:
                stream.finish(Stream.iterated(called(stream.code, stream.first, stream.c), stream.code, stream.c));
                break;
            case Stream.TURNED:
                stream.finish(Stream.turned(stream.row, stream.number + 1));
                break;
            case Stream.MAPPED:
                stream.finish(mappedFrom(next, stream.code, stream.c));
                break;
            case Stream.SIFTED:
                stream.finish(siftedFrom(next, stream.code, stream.c));
                break;
            case Stream.TAKEN:
                stream.finish(Stream.taken(next, stream.number - 1));
                break;
            default:
                stream.finish(Stream.joined(next, stream.behind));
                break;
        }
        return stream.rest;
    }

    private Stream streamAfter(Stream stream, int n) {
        Stream here = stream;
        for (int i = 0; i < n && here != null; i++) {
            here = restOf(here);
        }
        return here;
    }

    private Stream mappedFrom(Stream source, int f, long c) {
        return source == null ? null : Stream.mapped(called(f, source.first, c), f, c, source);
    }

    private Stream siftedFrom(Stream source, int test, long c) {
        Stream here = source;
        for (int looked = 1; here != null && looked <= LOOK_LIMIT; looked++) {
            if (tested(test, here.first, c)) {
                return Stream.sifted(test, c, here);
            }
            here = looked < LOOK_LIMIT ? restOf(here) : null;
        }
        return null;
    }

    private static Held joinedStreams(Held one, Held other) {
        int depth = deeperThan(Math.max(one.depth, other.depth));
        return Held.ofStream(Stream.joined(one.stream, other.stream), depth);
    }

    // ---------------------------------------------------------------- what a slot holds

    /** One COLLECTION; it has the part that its kind needs, the other parts are null. */
    private static final class Held {
        final int kind;
        final Branch tree;
        final Node trie;
        final Pile pile;
        final Stream stream;
        final int depth;

        Held(int kind, Branch tree, Node trie, Pile pile, Stream stream, int depth) {
            this.kind = kind;
            this.tree = tree;
            this.trie = trie;
            this.pile = pile;
            this.stream = stream;
            this.depth = depth;
        }

        static Held emptyOf(int kind) {
            return new Held(kind, null, null, null, null, 0);
        }

        static Held ofTree(int kind, Branch tree) {
            return new Held(kind, tree, null, null, null, 0);
        }

        static Held ofTrie(int kind, Node trie) {
            return new Held(kind, null, trie, null, null, 0);
        }

        static Held ofPile(Pile pile) {
            return new Held(HEAP, null, null, pile, null, 0);
        }

        static Held ofStream(Stream stream, int depth) {
            return new Held(STREAM, null, null, null, stream, depth);
        }

        /** Of a STREAM it is 0, as nobody knows how long it is. */
        int amount() {
            return Branch.sizeOf(tree) + Node.totalOf(trie) + Pile.sizeOf(pile);
        }

        boolean isSound(int mask) {
            if (amount() > SIZE_LIMIT || depth > DEPTH_LIMIT) {
                return false;
            }
            return Branch.isSound(tree)
                    && (kind != TREE || Branch.isSorted(tree, Long.MIN_VALUE, Long.MAX_VALUE))
                    && Node.isSound(trie, 0, mask, 0) && Pile.isSound(pile);
        }
    }

    // ---------------------------------------------------------------- SEQUENCE, QUEUE, TREE

    /**
     * A balanced tree (the heights of two sides differ by at most 1). SEQUENCE and QUEUE go by place and
     * leave the key 0; a TREE goes by key.
     */
    private static final class Branch {
        final Branch left;
        final long key;
        final long value;
        final Branch right;
        final int height;
        final int size;

        Branch(Branch left, long key, long value, Branch right) {
            this.left = left;
            this.key = key;
            this.value = value;
            this.right = right;
            int leftHeight = left == null ? 0 : left.height;
            int rightHeight = right == null ? 0 : right.height;
            this.height = 1 + (leftHeight >= rightHeight ? leftHeight : rightHeight);
            this.size = 1 + (left == null ? 0 : left.size) + (right == null ? 0 : right.size);
        }

        static int heightOf(Branch tree) {
            return tree == null ? 0 : tree.height;
        }

        static int sizeOf(Branch tree) {
            return tree == null ? 0 : tree.size;
        }

        /** For sides of any heights: goes down the higher one to where the other fits. */
        private static Branch linked(Branch left, long key, long value, Branch right) {
            if (left != null && left.height > heightOf(right) + 1) {
                return balanced(left.left, left.key, left.value, linked(left.right, key, value, right));
            }
            if (right != null && right.height > heightOf(left) + 1) {
                return balanced(linked(left, key, value, right.left), right.key, right.value, right.right);
            }
            return new Branch(left, key, value, right);
        }

        /** For sides whose heights differ by at most 2. */
        private static Branch balanced(Branch left, long key, long value, Branch right) {
            if (left != null && left.height > heightOf(right) + 1) {
                return leftLifted(left, key, value, right);
            }
            if (right != null && right.height > heightOf(left) + 1) {
                return rightLifted(left, key, value, right);
            }
            return new Branch(left, key, value, right);
        }

        private static Branch leftLifted(Branch left, long key, long value, Branch right) {
            Branch inner = left.right;
            if (inner == null || inner.height <= heightOf(left.left)) {
                return new Branch(left.left, left.key, left.value, new Branch(inner, key, value, right));
            }
            Branch newLeft = new Branch(left.left, left.key, left.value, inner.left);
            return new Branch(newLeft, inner.key, inner.value, new Branch(inner.right, key, value, right));
        }

        private static Branch rightLifted(Branch left, long key, long value, Branch right) {
            Branch inner = right.left;
            if (inner == null || inner.height <= heightOf(right.right)) {
                return new Branch(new Branch(left, key, value, inner), right.key, right.value, right.right);
            }
            Branch newRight = new Branch(inner.right, right.key, right.value, right.right);
            return new Branch(new Branch(left, key, value, inner.left), inner.key, inner.value, newRight);
        }

        static Branch chained(Branch first, Branch then) {
            if (first == null || then == null) {
                return first == null ? then : first;
            }
            Branch middle = branchAt(then, 0);
            return middle == null ? first : linked(first, middle.key, middle.value, withoutFirst(then, 1));
        }

        private static Branch firstOf(Branch tree, int n) {
            if (tree == null || n <= 0) {
                return null;
            }
            if (n >= tree.size) {
                return tree;
            }
            int before = sizeOf(tree.left);
            if (n <= before) {
                return firstOf(tree.left, n);
            }
            return linked(tree.left, tree.key, tree.value, firstOf(tree.right, n - before - 1));
        }

        private static Branch withoutFirst(Branch tree, int n) {
            if (tree == null || n >= tree.size) {
                return null;
            }
            if (n <= 0) {
                return tree;
            }
            int before = sizeOf(tree.left);
            if (n > before) {
                return withoutFirst(tree.right, n - before - 1);
            }
            return linked(withoutFirst(tree.left, n), tree.key, tree.value, tree.right);
        }

        static Branch branchAt(Branch tree, int i) {
            Branch here = tree;
            int place = i;
            while (here != null) {
                int before = sizeOf(here.left);
                if (place == before) {
                    return here;
                }
                if (place < before) {
                    here = here.left;
                } else {
                    here = here.right;
                    place -= before + 1;
                }
            }
            return null;
        }

        private static Branch withValueAt(Branch tree, int i, long value) {
            if (tree == null) {
                return null;
            }
            int before = sizeOf(tree.left);
            if (i < before) {
                return new Branch(withValueAt(tree.left, i, value), tree.key, tree.value, tree.right);
            }
            if (i > before) {
                return new Branch(tree.left, tree.key, tree.value, withValueAt(tree.right, i - before - 1, value));
            }
            return new Branch(tree.left, tree.key, value, tree.right);
        }

        private static Branch ofRow(long[] row, int low, int high) {
            if (low < 0 || low >= high || high > row.length) {
                return null;
            }
            int middle = (low + high) / 2;
            return new Branch(ofRow(row, low, middle), 0, row[middle], ofRow(row, middle + 1, high));
        }

        /** Answers the place in the row behind the last one. */
        private static int pourValues(Branch tree, long[] row, int start) {
            if (tree == null) {
                return start;
            }
            int middle = pourValues(tree.left, row, start);
            if (middle < 0 || middle >= row.length) {
                return middle;
            }
            row[middle] = tree.value;
            return pourValues(tree.right, row, middle + 1);
        }

        static Branch branchWith(Branch tree, long key) {
            Branch here = tree;
            while (here != null && here.key != key) {
                here = key < here.key ? here.left : here.right;
            }
            return here;
        }

        private static Branch withKey(Branch tree, long key, long value) {
            if (tree == null) {
                return new Branch(null, key, value, null);
            }
            if (key < tree.key) {
                return balanced(withKey(tree.left, key, value), tree.key, tree.value, tree.right);
            }
            if (key > tree.key) {
                return balanced(tree.left, tree.key, tree.value, withKey(tree.right, key, value));
            }
            return new Branch(tree.left, key, value, tree.right);
        }

        static Branch withoutKey(Branch tree, long key) {
            return branchWith(tree, key) == null ? tree : chained(below(tree, key), above(tree, key, false));
        }

        private static Branch below(Branch tree, long high) {
            if (tree == null) {
                return null;
            }
            if (tree.key >= high) {
                return below(tree.left, high);
            }
            return linked(tree.left, tree.key, tree.value, below(tree.right, high));
        }

        private static Branch above(Branch tree, long low, boolean lowToo) {
            if (tree == null) {
                return null;
            }
            if (tree.key < low || tree.key == low && !lowToo) {
                return above(tree.right, low, lowToo);
            }
            return linked(above(tree.left, low, lowToo), tree.key, tree.value, tree.right);
        }

        /** Way 0: greatest below key, 1: greatest not above, 2: least not below, 3: least above. */
        static Branch nearest(Branch tree, long key, int way) {
            Branch best = null;
            Branch here = tree;
            while (here != null) {
                boolean tooLow = way == 2 ? here.key < key : here.key <= key;
                boolean tooHigh = way == 1 ? here.key > key : here.key >= key;
                boolean fits = way < 2 ? !tooHigh : !tooLow;
                if (fits) {
                    best = here;
                }
                // Below the key the better ones are greater, above it they are less.
                here = fits == (way < 2) ? here.right : here.left;
            }
            return best;
        }

        private static int commonKeys(Branch one, Branch other) {
            if (one == null) {
                return 0;
            }
            int here = branchWith(other, one.key) == null ? 0 : 1;
            return here + commonKeys(one.left, other) + commonKeys(one.right, other);
        }

        private static Branch united(Branch one, Branch winner) {
            if (one == null || winner == null) {
                return one == null ? winner : one;
            }
            Branch left = united(below(one, winner.key), winner.left);
            Branch right = united(above(one, winner.key, false), winner.right);
            return linked(left, winner.key, winner.value, right);
        }

        static boolean alike(Branch one, Branch other) {
            if (sizeOf(one) != sizeOf(other)) {
                return false;
            }
            for (int i = 0; i < sizeOf(one); i++) {
                Branch a = branchAt(one, i);
                Branch b = branchAt(other, i);
                if (a == null || b == null || a.key != b.key || a.value != b.value) {
                    return false;
                }
            }
            return true;
        }

        private static boolean isSound(Branch tree) {
            if (tree == null) {
                return true;
            }
            int left = heightOf(tree.left);
            int right = heightOf(tree.right);
            return left - right <= 1 && right - left <= 1
                    && tree.height == 1 + Math.max(left, right)
                    && tree.size == 1 + sizeOf(tree.left) + sizeOf(tree.right)
                    && isSound(tree.left) && isSound(tree.right);
        }

        /** Whether the keys rise, from low to high at most; a key at the very edge has none beyond it. */
        private static boolean isSorted(Branch tree, long low, long high) {
            if (tree == null) {
                return true;
            }
            if (tree.key < low || tree.key > high) {
                return false;
            }
            boolean leftSorted = tree.key == low ? tree.left == null : isSorted(tree.left, low, tree.key - 1);
            boolean rightSorted = tree.key == high ? tree.right == null : isSorted(tree.right, tree.key + 1, high);
            return leftSorted && rightSorted;
        }
    }

    // ---------------------------------------------------------------- MAP, SET

    /**
     * A NODE of the document. It may be changed in place by the edit that owns it, and by nobody else;
     * its rows are as long as what they hold.
     */
    private static final class Node {
        private static final int BOTTOM = 7;
        private static final int LEVEL_BITS = 5;
        private static final int NUMBER_MASK = 31;
        private static final long[] NO_NUMBERS = {};

        final int level;
        final int owner;
        private int keyBits;
        private int nodeBits;
        private int total;
        private long[] keys = NO_NUMBERS;
        private long[] values = NO_NUMBERS;
        private Node[] nodes;

        Node(int level, int owner, Node[] nodes) {
            this.level = level;
            this.owner = owner;
            this.nodes = nodes;
        }

        static int hashOf(long key, int mask) {
            return (int) key & mask;
        }

        static int totalOf(Node root) {
            return root == null ? 0 : root.total;
        }

        /** The bit that stands for a HASH's number at a level; 0 at the bottom, where numbers are no more. */
        private static int bitOf(int hash, int level) {
            return level < BOTTOM ? 1 << (hash >>> LEVEL_BITS * level & NUMBER_MASK) : 0;
        }

        private static int rankOf(int bit, int bits) {
            return Integer.bitCount(bits & bit - 1);
        }

        /** The deepest NODE on the way of a key's HASH: the key is in it or nowhere. */
        static Node homeOf(Node root, int mask, long key) {
            int hash = hashOf(key, mask);
            Node here = root;
            while (here != null && (here.nodeBits & bitOf(hash, here.level)) != 0) {
                here = here.nodes[rankOf(bitOf(hash, here.level), here.nodeBits)];
            }
            return here;
        }

        /** The place of the key among the keys of its home; -1 if it is not there. */
        private int placeOf(int mask, long key) {
            int place = level < BOTTOM ? rankOf(bitOf(hashOf(key, mask), level), keyBits) : sortedPlace(key);
            return place < keys.length && keys[place] == key ? place : -1;
        }

        private int sortedPlace(long key) {
            int place = 0;
            while (place < keys.length && keys[place] < key) {
                place++;
            }
            return place;
        }

        static boolean holds(Node root, int mask, long key) {
            Node home = homeOf(root, mask, key);
            return home != null && home.placeOf(mask, key) >= 0;
        }

        /** How many keys have the HASH of this key. */
        static int alikeKeys(Node root, int mask, long key) {
            Node home = homeOf(root, mask, key);
            int found = 0;
            for (int i = 0; home != null && i < home.keys.length; i++) {
                if (hashOf(home.keys[i], mask) == hashOf(key, mask)) {
                    found++;
                }
            }
            return found;
        }

        static Node added(Node root, int edit, int mask, long key, long value) {
            Node home = homeOf(root, mask, key);
            int place = home == null ? -1 : home.placeOf(mask, key);
            if (place >= 0 && home.values[place] == value) {
                return root;
            }
            return adding(root == null ? new Node(0, edit, new Node[0]) : root, edit, mask, key, value);
        }

        private static Node adding(Node node, int edit, int mask, long key, long value) {
            Node own = node.ownedBy(edit);
            int bit = bitOf(hashOf(key, mask), own.level);
            int place = own.placeOf(mask, key);
            if (place >= 0) {
                own.values[place] = value;
            } else if ((own.nodeBits & bit) != 0) {
                own.addBelow(bit, mask, key, value);
            } else if ((own.keyBits & bit) != 0) {
                own.pushDown(bit, mask, key, value);
            } else {
                own.insertKey(bit, key, value);
                own.total++;
            }
            return own;
        }

        private void addBelow(int bit, int mask, long key, long value) {
            int place = rankOf(bit, nodeBits);
            // A child that this edit owns is changed in place, so its old total is read first.
            int before = nodes[place].total;
            nodes[place] = adding(nodes[place], owner, mask, key, value);
            total += nodes[place].total - before;
        }

        /** The key that stands at this number goes a level down, together with the new one. */
        private void pushDown(int bit, int mask, long key, long value) {
            int place = rankOf(bit, keyBits);
            Node pair = pairOf(level + 1, owner, mask, keys[place], values[place], key, value);
            removeKey(place, bit);
            nodes = withNode(nodes, rankOf(bit, nodeBits), pair);
            nodeBits |= bit;
            total++;
        }

        private static Node pairOf(int level, int edit, int mask, long oldKey, long oldValue, long key, long value) {
            int oldBit = bitOf(hashOf(oldKey, mask), level);
            int bit = bitOf(hashOf(key, mask), level);
            if (level < BOTTOM && oldBit == bit) {
                Node[] only = {pairOf(level + 1, edit, mask, oldKey, oldValue, key, value)};
                Node node = new Node(level, edit, only);
                node.nodeBits = bit;
                node.total = 2;
                return node;
            }
            boolean oldFirst = level < BOTTOM ? rankOf(oldBit, bit) == 0 : oldKey < key;
            Node node = new Node(level, edit, new Node[0]);
            node.keys = oldFirst ? new long[] {oldKey, key} : new long[] {key, oldKey};
            node.values = oldFirst ? new long[] {oldValue, value} : new long[] {value, oldValue};
            node.keyBits = oldBit | bit;
            node.total = 2;
            return node;
        }

        private void insertKey(int bit, long key, long value) {
            int place = level < BOTTOM ? rankOf(bit, keyBits) : sortedPlace(key);
            keys = withNumber(keys, place, key);
            values = withNumber(values, place, value);
            keyBits |= bit;
        }

        private void removeKey(int place, int bit) {
            keys = withoutNumber(keys, place);
            values = withoutNumber(values, place);
            keyBits &= ~bit;
        }

        static Node removed(Node root, int edit, int mask, long key) {
            if (root == null || !holds(root, mask, key)) {
                return root;
            }
            return root.total == 1 ? null : removing(root, edit, mask, key);
        }

        /** The key is there. */
        private static Node removing(Node node, int edit, int mask, long key) {
            Node own = node.ownedBy(edit);
            own.total--;
            int bit = bitOf(hashOf(key, mask), own.level);
            int place = own.placeOf(mask, key);
            if (place >= 0) {
                own.removeKey(place, bit);
            } else {
                own.removeBelow(bit, mask, key);
            }
            return own;
        }

        private void removeBelow(int bit, int mask, long key) {
            int place = rankOf(bit, nodeBits);
            Node below = removing(nodes[place], owner, mask, key);
            if (below.total > 1) {
                nodes[place] = below;
                return;
            }
            // A single key stands in the NODE above itself, else the SHAPE would tell what once was there.
            nodes = withoutNode(nodes, place);
            nodeBits &= ~bit;
            insertKey(bit, below.keys[0], below.values[0]);
        }

        private Node ownedBy(int edit) {
            if (owner == edit) {
                return this;
            }
            Node own = new Node(level, edit, nodes.length == 0 ? nodes : nodes.clone());
            own.keyBits = keyBits;
            own.nodeBits = nodeBits;
            own.total = total;
            // A row of keys is never changed, only replaced, so it can be shared.
            own.keys = keys;
            own.values = values.length == 0 ? values : values.clone();
            return own;
        }

        private static long[] withNumber(long[] row, int place, long number) {
            long[] longer = new long[row.length + 1];
            System.arraycopy(row, 0, longer, 0, place);
            longer[place] = number;
            System.arraycopy(row, place, longer, place + 1, row.length - place);
            return longer;
        }

        private static long[] withoutNumber(long[] row, int place) {
            if (row.length <= 1) {
                return NO_NUMBERS;
            }
            long[] shorter = new long[row.length - 1];
            System.arraycopy(row, 0, shorter, 0, place);
            System.arraycopy(row, place + 1, shorter, place, shorter.length - place);
            return shorter;
        }

        private static Node[] withNode(Node[] row, int place, Node node) {
            Node[] longer = new Node[row.length + 1];
            for (int i = 0; i < longer.length; i++) {
                longer[i] = i < place ? row[i] : i > place ? row[i - 1] : node;
            }
            return longer;
        }

        private static Node[] withoutNode(Node[] row, int place) {
            Node[] shorter = new Node[Math.max(0, row.length - 1)];
            for (int i = 0; i < shorter.length; i++) {
                shorter[i] = i < place ? row[i] : row[i + 1];
            }
            return shorter;
        }

        /** The key at place i in the ORDER, i less than the total. */
        static long keyAt(Node root, int i) {
            Node here = root;
            int place = i;
            while (here != null && place >= here.keys.length) {
                place -= here.keys.length;
                int below = 0;
                while (below < here.nodes.length && place >= here.nodes[below].total) {
                    place -= here.nodes[below].total;
                    below++;
                }
                here = below < here.nodes.length ? here.nodes[below] : null;
            }
            return here == null || place < 0 ? 0 : here.keys[place];
        }

        /** In ORDER; answers the place in the row behind the last one. */
        private static int pourKeys(Node node, long[] row, int start) {
            if (node == null || node.total > row.length - start) {
                return start;
            }
            System.arraycopy(node.keys, 0, row, start, node.keys.length);
            int next = start + node.keys.length;
            for (Node below : node.nodes) {
                next = pourKeys(below, row, next);
            }
            return next;
        }

        private static int pourValues(Node node, long[] row, int start) {
            if (node == null || node.total > row.length - start) {
                return start;
            }
            System.arraycopy(node.values, 0, row, start, node.values.length);
            int next = start + node.values.length;
            for (Node below : node.nodes) {
                next = pourValues(below, row, next);
            }
            return next;
        }

        private static int shapeOf(Node node) {
            if (node != null && node.level == BOTTOM) {
                return BOTTOM + node.keys.length;
            }
            int s = 17;
            s = 31 * s + (node == null ? 0 : node.keyBits);
            s = 31 * s + (node == null ? 0 : node.nodeBits);
            for (int i = 0; node != null && i < node.nodes.length; i++) {
                s = 31 * s + shapeOf(node.nodes[i]);
            }
            return s;
        }

        /** What has the same keys has the same NODES, so these are compared one by one. */
        private static boolean alike(Node one, Node other) {
            if (one == other) {
                return true;
            }
            if (one == null || other == null || one.total != other.total
                    || one.keyBits != other.keyBits || one.nodeBits != other.nodeBits
                    || !alikeRows(one.keys, other.keys) || !alikeRows(one.values, other.values)) {
                return false;
            }
            for (int i = 0; i < one.nodes.length && i < other.nodes.length; i++) {
                if (!alike(one.nodes[i], other.nodes[i])) {
                    return false;
                }
            }
            return true;
        }

        private static boolean alikeRows(long[] one, long[] other) {
            if (one.length != other.length) {
                return false;
            }
            for (int i = 0; i < one.length; i++) {
                if (one[i] != other[i]) {
                    return false;
                }
            }
            return true;
        }

        /** Whether all below is where it belongs; the path is the bits that the HASHES here have in common. */
        private static boolean isSound(Node node, int level, int mask, int path) {
            if (node == null) {
                return true;
            }
            if (node.level != level || node.total < (level == 0 ? 1 : 2)
                    || node.keys.length != node.values.length || (node.keyBits & node.nodeBits) != 0) {
                return false;
            }
            return level == BOTTOM ? node.isSoundBottom(mask, path) : node.isSoundAbove(mask, path);
        }

        private boolean isSoundBottom(int mask, int path) {
            for (int i = 0; i < keys.length; i++) {
                if (hashOf(keys[i], mask) != path || i > 0 && keys[i - 1] >= keys[i]) {
                    return false;
                }
            }
            return total == keys.length && nodes.length == 0 && total <= ALIKE_LIMIT;
        }

        private boolean isSoundAbove(int mask, int path) {
            int place = 0;
            int below = 0;
            int found = keys.length;
            for (int number = 0; number <= NUMBER_MASK; number++) {
                int longerPath = path | number << LEVEL_BITS * level;
                if ((keyBits >>> number & 1) != 0) {
                    if (place >= keys.length || !isOnPath(keys[place], mask, longerPath)) {
                        return false;
                    }
                    place++;
                }
                if ((nodeBits >>> number & 1) != 0) {
                    if (below >= nodes.length || nodes[below] == null
                            || !isSound(nodes[below], level + 1, mask, longerPath)) {
                        return false;
                    }
                    found += nodes[below].total;
                    below++;
                }
            }
            return place == keys.length && below == nodes.length && found == total;
        }

        private boolean isOnPath(long key, int mask, int path) {
            int known = level + 1 < BOTTOM ? (1 << LEVEL_BITS * (level + 1)) - 1 : -1;
            return (hashOf(key, mask) & known) == path;
        }
    }

    // ---------------------------------------------------------------- HEAP

    /** A heap whose left side is never the smaller one, so that its right edge is short. */
    private static final class Pile {
        final long value;
        final Pile left;
        final Pile right;
        final int size;

        Pile(long value, Pile one, Pile other) {
            boolean oneFirst = sizeOf(one) >= sizeOf(other);
            this.value = value;
            this.left = oneFirst ? one : other;
            this.right = oneFirst ? other : one;
            this.size = 1 + sizeOf(one) + sizeOf(other);
        }

        static int sizeOf(Pile pile) {
            return pile == null ? 0 : pile.size;
        }

        private static Pile merged(Pile one, Pile other) {
            if (one == null || other == null) {
                return one == null ? other : one;
            }
            if (one.value <= other.value) {
                return new Pile(one.value, one.left, merged(one.right, other));
            }
            return new Pile(other.value, other.left, merged(one, other.right));
        }

        /** A left edge may be long: it is walked, and only right sides, which halve, are gone into. */
        private static int pour(Pile pile, long[] row, int start) {
            int next = start;
            for (Pile here = pile; here != null && next < row.length; here = here.left) {
                row[next] = here.value;
                next = pour(here.right, row, next + 1);
            }
            return next;
        }

        private static boolean isSound(Pile pile) {
            for (Pile here = pile; here != null; here = here.left) {
                if (here.size != 1 + sizeOf(here.left) + sizeOf(here.right)
                        || sizeOf(here.left) < sizeOf(here.right)
                        || here.left != null && here.left.value < here.value
                        || here.right != null && here.right.value < here.value
                        || !isSound(here.right)) {
                    return false;
                }
            }
            return true;
        }
    }

    // ---------------------------------------------------------------- STREAM

    /** A first ELEMENT with the CELL behind it: what it is to be worked out of, and later the rest. */
    private static final class Stream {
        static final int GIVEN = 0;
        static final int ITERATED = 1;
        static final int TURNED = 2;
        static final int MAPPED = 3;
        static final int SIFTED = 4;
        static final int TAKEN = 5;
        static final int JOINED = 6;

        final long first;
        final int way;
        private int code;
        private long c;
        private int number;
        private Stream source;
        private Stream behind;
        private Branch row;
        private boolean isDone;
        private Stream rest;

        Stream(long first, int way) {
            this.first = first;
            this.way = way;
        }

        private void finish(Stream next) {
            rest = next;
            isDone = true;
        }

        static Stream given(long first, Stream rest) {
            Stream stream = new Stream(first, GIVEN);
            stream.finish(rest);
            return stream;
        }

        static Stream iterated(long first, int f, long c) {
            Stream stream = new Stream(first, ITERATED);
            stream.code = f;
            stream.c = c;
            return stream;
        }

        static Stream turned(Branch row, int number) {
            Branch here = Branch.branchAt(row, number);
            if (here == null) {
                return null;
            }
            Stream stream = new Stream(here.value, TURNED);
            stream.row = row;
            stream.number = number;
            return stream;
        }

        static Stream mapped(long first, int f, long c, Stream source) {
            Stream stream = new Stream(first, MAPPED);
            stream.code = f;
            stream.c = c;
            stream.source = source;
            return stream;
        }

        /** The source's first is one that passes. */
        static Stream sifted(int test, long c, Stream source) {
            Stream stream = new Stream(source.first, SIFTED);
            stream.code = test;
            stream.c = c;
            stream.source = source;
            return stream;
        }

        static Stream taken(Stream source, int number) {
            if (source == null || number <= 0) {
                return null;
            }
            if (number == 1) {
                return given(source.first, null);
            }
            Stream stream = new Stream(source.first, TAKEN);
            stream.number = number;
            stream.source = source;
            return stream;
        }

        static Stream joined(Stream source, Stream behind) {
            if (source == null) {
                return behind;
            }
            Stream stream = new Stream(source.first, JOINED);
            stream.source = source;
            stream.behind = behind;
            return stream;
        }
    }

    // ---------------------------------------------------------------- BUILDER

    /** Works in place: a SEQUENCE in its own row, keys in NODES that bear the number of its edit. */
    private static final class Builder {
        private final long[] row = new long[SIZE_LIMIT];
        private boolean isOpen;
        private int kind;
        private int length;
        private Node root;
        private int edit;

        private void start(Held held, int nextEdit) {
            isOpen = true;
            kind = held.kind;
            root = held.trie;
            edit = nextEdit;
            length = Branch.pourValues(held.tree, row, 0);
        }

        private int amount() {
            return kind == SEQUENCE ? length : Node.totalOf(root);
        }

        private Held finished() {
            isOpen = false;
            return kind == SEQUENCE ? Held.ofTree(kind, Branch.ofRow(row, 0, length)) : Held.ofTrie(kind, root);
        }
    }
}
