/** Each sentence of "What it is" and of "Terms" that names a boundary case, but for the order of exceptions. */
public final class TermBoundaryTests extends Boundary {
    public static void main(String[] args) {
        sentence("An object is used for at most 512 calls", TermBoundaryTests::lastCall);
        sentence("SLOTS hold a COLLECTION each, or none (at first)", TermBoundaryTests::noneAtFirst);
        sentence("what a SLOT held before a call stays what it was wherever else it is held",
                TermBoundaryTests::staysWhatItWas);
        sentence("(a call may read the SLOT that it sets)", TermBoundaryTests::readsWhatItSets);
        sentence("ELEMENTS, keys and values are longs", TermBoundaryTests::longs);
        fullSentences();
        hashSentences();
        functionSentences();
        streamSentences();
        depthSentences();
        builderSentences();
        end();
    }

    private static void fullSentences() {
        sentence("at most 1000 ELEMENTS: SEQUENCE", () -> atMostThousand(SEQUENCE));
        sentence("at most 1000 ELEMENTS: QUEUE", () -> atMostThousand(QUEUE));
        sentence("at most 1000 ELEMENTS: HEAP", () -> atMostThousand(HEAP));
        sentence("All but a STREAM", TermBoundaryTests::longerStreams);
        sentence("a call takes as many MOVES as told; more than 20000 in all: FULL", TermBoundaryTests::movesTold);
        sentence("more than 20000 in all, by calls that go over whole COLLECTIONS", TermBoundaryTests::movesOfCalls);
        sentence("other calls take no MOVES", TermBoundaryTests::noMoves);
    }

    private static void hashSentences() {
        for (int grain = 0; grain < 3; grain++) {
            int g = grain;
            sentence("at most 16 with the same HASH (one more: FULL, too), GRAIN " + g, () -> sixteenAlike(g));
            sentence("at most 16 with the same HASH, when joined, GRAIN " + g, () -> sixteenJoined(g));
            sentence("HASH of a key, level by level, GRAIN " + g, () -> hashBits(g));
        }
        sentence("each key once", TermBoundaryTests::eachKeyOnce);
        sentence("at d 6: 2 bits", TermBoundaryTests::lastBits);
        sentence("for which there is one key: that itself; more: a NODE", TermBoundaryTests::oneKeyOrNode);
        sentence("One of level 7 has only keys, the less before", TermBoundaryTests::levelSeven);
        sentence("ORDER: the keys by these numbers, then its NODES by theirs", TermBoundaryTests::order);
        sentence("SHAPE: as an int that wraps", TermBoundaryTests::shapeThatWraps);
        sentence("SHAPE of none: 17 31 31", TermBoundaryTests::shapeOfNone);
    }

    private static void functionSentences() {
        sentence("FUNCTIONS by 0", TermBoundaryTests::functionsByZero);
        sentence("x / c and x mod c (the sign of x)", TermBoundaryTests::signs);
        sentence("Longs wrap", TermBoundaryTests::longsWrap);
        sentence("TESTS", TermBoundaryTests::tests);
        sentence("ArithmeticException goes through, whatever call it comes to", TermBoundaryTests::goesThrough);
    }

    private static void streamSentences() {
        sentence("STREAM: empty, or a first ELEMENT and the rest", TermBoundaryTests::emptyOrMore);
        sentence("a CELL is worked out when it is first needed, and kept", TermBoundaryTests::workedOutOnce);
        sentence("If that throws, it is tried anew when it is needed next", TermBoundaryTests::triedAnew);
        sentence("Nothing of a STREAM is worked out before it is needed", TermBoundaryTests::notBefore);
        sentence("CALLS are counted, each as it begins", TermBoundaryTests::countedAsItBegins);
        sentence("To work out a CELL takes a MOVE, as it begins", TermBoundaryTests::moveAsItBegins);
        sentence("when there are 20000 that is FULL, and goes through", TermBoundaryTests::noMoveForCell);
        sentence("where both are met, what is met first", TermBoundaryTests::whatIsMetFirst);
        sentence("CELLS that were worked out stay so, also if the call throws then", TermBoundaryTests::staySo);
    }

    private static void depthSentences() {
        sentence("DEPTH 0 from make, iterate, turn", TermBoundaryTests::depthFromNothing);
        sentence("DEPTH that of from for copy, push, pop", TermBoundaryTests::depthOfFrom);
        sentence("DEPTH of map, filter, take, join one more", TermBoundaryTests::oneDeeper);
        sentence("than the greatest of what it is made of", TermBoundaryTests::greatestDepth);
        sentence("a STREAM of DEPTH 100 can be worked out", TermBoundaryTests::deepestWorks);
    }

    private static void builderSentences() {
        sentence("BUILDERS: none at first; one is OPEN from open till freeze", TermBoundaryTests::openTillFreeze);
        sentence("What it was made of stays as it is", TermBoundaryTests::madeOfStays);
    }

    // ---------------------------------------------------------------- what it is

    private static void lastCall() {
        Scene sequence = scene().with(t -> t.make(0, SEQUENCE)).each(510, (t, i) -> t.add(0, 0, i));
        sequence.due(510, t -> t.size(0));
        sequence.due(509, t -> t.at(0, 509));
        sequence.due(511, t -> t.add(0, 0, 5));
        for (int kind : new int[] {MAP, TREE}) {
            Scene keys = scene().with(t -> t.make(0, kind)).each(510, (t, i) -> t.put(0, 0, 7919L * i % 512, i));
            keys.due(510, t -> t.size(0));
            keys.due(509, t -> t.find(0, 7919L * 509 % 512));
            keys.due(509, t -> t.out(0, 0, 0));
            keys.due(510, t -> t.put(0, 0, 0, 0));
            keys.due(511, t -> t.put(0, 0, 512, 0));
            keys.due(0, t -> t.count(UNSOUND));
        }
        Scene builder = scene().with(t -> t.make(0, SET), t -> t.open(0, 0)).each(509, (t, i) -> t.build(0, 0, i, 0));
        builder.due(509, t -> t.freeze(0, 1));
        builder.due(1, t -> t.look(0, 508));
        Scene refused = scene().each(511, (t, i) -> tried(() -> t.make(24, i)));
        refused.due(-1, t -> t.kind(23));
        Scene queue = scene().holding(0, QUEUE).each(255, (t, i) -> t.add(0, 0, i)).times(255, t -> t.pop(0, 0));
        queue.fails(NONE, t -> t.pop(0, 0));
    }

    private static void tried(Runnable call) {
        try {
            call.run();
        } catch (RuntimeException e) {
            return;
        }
    }

    // ---------------------------------------------------------------- slots

    private static void noneAtFirst() {
        for (int slot = 0; slot < 24; slot++) {
            int s = slot;
            scene().due(-1, t -> t.kind(s));
            scene().refuses(STATE, t -> t.size(s));
            scene().refuses(STATE, t -> t.copy(0, s));
            // One that is made leaves all others as they were.
            Scene one = scene().with(t -> t.make(s, HEAP));
            for (int other = 0; other < 24; other++) {
                int o = other;
                one.due(o == s ? HEAP : -1, t -> t.kind(o));
            }
        }
    }

    private interface Change {
        void on(PersistentTrove t, int slot);
    }

    /** All calls that make a collection of slot 0's, by the kind of that. */
    private static Change[] changes(int kind) {
        Change join = (t, slot) -> t.join(slot, 0, 0);
        Change add = (t, slot) -> t.add(slot, 0, 69);
        Change pop = (t, slot) -> t.pop(slot, 0);
        Change put = (t, slot) -> t.put(slot, 0, 69, 1);
        Change replace = (t, slot) -> t.put(slot, 0, 37, 1);
        Change out = (t, slot) -> t.out(slot, 0, 37);
        Change turn = (t, slot) -> t.turn(slot, 0);
        Change make = (t, slot) -> t.make(slot, TREE);
        Change map = (t, slot) -> t.map(slot, 0, 0, 1);
        Change filter = (t, slot) -> t.filter(slot, 0, 0, 37);
        Change push = (t, slot) -> t.push(slot, 0, 69);
        switch (kind) {
            case SEQUENCE:
                return new Change[] {add, push, pop, join, map, filter, turn, make,
                    (t, slot) -> t.set(slot, 0, 1, 69), (t, slot) -> t.drop(slot, 0, 1, true),
                    (t, slot) -> t.drop(slot, 0, 2, false), (t, slot) -> t.drop(slot, 0, 0, false)};
            case MAP:
                return new Change[] {put, replace, out, join, turn, make};
            case SET:
                return new Change[] {add, out, join, turn, filter, (t, slot) -> t.meet(slot, 0, 0, true),
                    (t, slot) -> t.meet(slot, 0, 0, false)};
            case TREE:
                return new Change[] {put, replace, out, join, turn, (t, slot) -> t.range(slot, 0, 6, 99)};
            case QUEUE:
            case HEAP:
                return new Change[] {add, pop, join, make};
            default:
                return new Change[] {push, pop, join, map, filter, (t, slot) -> t.take(slot, 0, 2),
                    (t, slot) -> t.list(slot, 0, 2)};
        }
    }

    /** Keys that meet in NODES: 5, 37 and 1029 are alike in 5 bits, the last one has the HASH of the first. */
    private static Scene several(int kind) {
        return scene().holding(0, kind, 5, 37, 6, 1029, 1L << 32 | 5);
    }

    private static void staysWhatItWas() {
        for (int kind = SEQUENCE; kind <= STREAM; kind++) {
            Scene before = several(kind);
            for (Change change : changes(kind)) {
                before.with(t -> change.on(t, 1)).alike(0, before, 0);
                Scene held = before.with(t -> t.copy(1, 0), t -> t.copy(23, 0), t -> change.on(t, 0));
                held.alike(1, before, 0);
                held.alike(23, before, 0);
                // Also where what was changed is changed again.
                Scene twice = before.with(t -> change.on(t, 1), t -> t.copy(2, 1), t -> t.copy(0, 1));
                twice.tried(t -> change.on(t, 0)).alike(2, before.with(t -> change.on(t, 1)), 1);
            }
        }
    }

    private static void readsWhatItSets() {
        for (int kind = SEQUENCE; kind <= STREAM; kind++) {
            Scene before = several(kind);
            for (Change change : changes(kind)) {
                Scene other = before.with(t -> change.on(t, 2));
                before.with(t -> change.on(t, 0)).alike(0, other, 2);
            }
        }
        Scene two = scene().holding(0, SEQUENCE, 1, 2).holding(1, SEQUENCE, 3);
        two.with(t -> t.join(0, 0, 1)).holds(0, 1, 2, 3);
        two.with(t -> t.join(0, 1, 0)).holds(0, 3, 1, 2);
        Scene sets = scene().holding(0, SET, 1, 2).holding(1, SET, 2, 3);
        sets.with(t -> t.meet(0, 0, 1, true)).holds(0, 1);
        sets.with(t -> t.meet(0, 1, 0, true)).holds(0, 3);
        sets.with(t -> t.meet(0, 1, 0, false)).holds(0, 2);
        Scene builder = two.with(t -> t.open(0, 0), t -> t.build(0, 0, 0, 9), t -> t.freeze(0, 0));
        builder.holds(0, 1, 2, 9);
    }

    private static void longs() {
        long[] mixed = {0, MOST, -1, LEAST, 1};
        scene().holding(0, SEQUENCE, mixed).holds(0, mixed);
        scene().holding(0, QUEUE, mixed).holds(0, mixed);
        scene().holding(0, STREAM, mixed).holds(0, mixed);
        scene().holding(0, HEAP, mixed).holds(0, LEAST, -1, 0, 1, MOST);
        scene().holding(0, TREE, mixed).holds(0, LEAST, -1, 0, 1, MOST);
        // The HASH of LEAST is 0's, that of MOST is -1's.
        scene().holding(0, SET, mixed).holds(0, 1, LEAST, 0, -1, MOST);
        scene().holding(0, MAP, mixed).holds(0, 1, LEAST, 0, -1, MOST);
        for (int kind : new int[] {MAP, TREE}) {
            Scene scene = scene().with(t -> t.make(0, kind), t -> t.put(0, 0, LEAST, MOST), t -> t.put(0, 0, MOST, LEAST));
            scene.due(MOST, t -> t.find(0, LEAST));
            scene.due(LEAST, t -> t.find(0, MOST));
            scene.with(t -> t.turn(1, 0)).due(2, t -> t.size(1));
        }
        Scene builder = scene().with(t -> t.make(0, SEQUENCE), t -> t.open(0, 0), t -> t.build(0, 0, 0, LEAST));
        builder.due(LEAST, t -> t.look(0, 0));
        scene().holding(0, SEQUENCE, 1).due(1, t -> t.set(0, 0, 0, MOST));
        scene().holding(0, SEQUENCE, LEAST).due(LEAST, t -> t.set(0, 0, 0, MOST));
        scene().with(t -> t.iterate(0, LEAST, 3, -1)).due(MOST, t -> t.at(0, 1));
    }

    // ---------------------------------------------------------------- FULL

    private static void atMostThousand(int kind) {
        Scene before = scene().grown(0, kind, 999);
        before.due(999, t -> t.size(0));
        before.due(1000, t -> t.add(1, 0, 5));
        Scene full = scene().grown(0, kind, 1000);
        full.due(1000, t -> t.size(0));
        full.refuses(FULL, t -> t.add(1, 0, 5));
        full.refuses(FULL, t -> t.add(0, 0, 5));
        full.with(t -> t.pop(0, 0)).due(1000, t -> t.add(0, 0, 5));
        full.with(t -> t.make(1, kind)).due(1000, t -> t.join(1, 0, 1));
        full.with(t -> t.make(1, kind)).due(1000, t -> t.join(1, 1, 0));
        full.holding(1, kind, 5).refuses(FULL, t -> t.join(2, 0, 1));
        full.holding(1, kind, 5).refuses(FULL, t -> t.join(2, 1, 0));
        full.refuses(FULL, t -> t.join(0, 0, 0));
        scene().grown(0, kind, 500).due(1000, t -> t.join(0, 0, 0));
        scene().grown(0, kind, 500).with(t -> t.add(1, 0, 5)).refuses(FULL, t -> t.join(0, 0, 1));
        if (kind == SEQUENCE) {
            before.with(t -> t.push(1, 0, 5)).due(1000, t -> t.size(1));
            full.refuses(FULL, t -> t.push(1, 0, 5));
            full.with(t -> t.drop(0, 0, 1, true), t -> t.push(0, 0, 5)).due(1000, t -> t.size(0));
            before.with(t -> t.open(0, 0)).due(1000, t -> t.build(0, 0, 0, 5));
            full.with(t -> t.open(0, 0)).refuses(FULL, t -> t.build(0, 0, 0, 5));
            full.with(t -> t.open(0, 0), t -> t.build(0, 2, 0, 0)).due(1000, t -> t.build(0, 0, 0, 5));
            full.with(t -> t.open(0, 0)).due(1000, t -> t.freeze(0, 1));
        }
    }

    private static void longerStreams() {
        Scene stream = scene().thousand(0).with(t -> t.turn(0, 0));
        stream.with(t -> t.push(0, 0, -1)).due(999, t -> t.at(0, 1000));
        stream.with(t -> t.push(0, 0, -1)).fails(NONE, t -> t.at(0, 1001));
        stream.with(t -> t.join(0, 0, 0)).due(999, t -> t.at(0, 1999));
        stream.with(t -> t.join(0, 0, 0)).fails(NONE, t -> t.at(0, 2000));
        scene().numbers(0).with(t -> t.take(0, 0, 1001)).due(1000, t -> t.at(0, 1000));
        scene().numbers(0).due(20000, t -> t.at(0, 20000));
    }

    /** These take so many MOVES: exactly as many may be left, one less is FULL. */
    private static void takes(int moves, Scene scene, Scene.Step call) {
        Scene enough = scene.leaving(moves);
        enough.goesWell(call);
        enough.with(call).due(20000, t -> t.count(MOVES));
        scene.with(call).due(moves + scene.ask(t -> t.count(MOVES)), t -> t.count(MOVES));
        if (moves > 0) {
            scene.leaving(moves - 1).refuses(FULL, call);
            scene.leaving(0).refuses(FULL, call);
        }
    }

    private static void movesTold() {
        Scene tree = scene().holding(0, TREE, 5, 6, 7);
        takes(3, tree, t -> t.range(1, 0, 6, 7));
        takes(3, tree, t -> t.range(0, 0, 9, 6));
        takes(0, scene().holding(0, TREE), t -> t.range(0, 0, 6, 7));
        for (int kind : new int[] {SEQUENCE, QUEUE, MAP, TREE, SET}) {
            Scene two = scene().holding(0, kind, 5, 6, 7).holding(1, kind, 7, 8).holding(2, kind);
            takes(5, two, t -> t.join(3, 0, 1));
            takes(3, two, t -> t.join(3, 0, 2));
            takes(2, two, t -> t.join(3, 2, 1));
            takes(4, two, t -> t.join(1, 1, 1));
            takes(0, two, t -> t.join(3, 2, 2));
        }
        for (int kind = SEQUENCE; kind < STREAM; kind++) {
            Scene two = scene().holding(0, kind, 5, 6, 7).holding(1, kind, 7, 8).holding(2, kind);
            takes(5, two, t -> t.same(0, 1));
            takes(6, two, t -> t.same(0, 0));
            takes(2, two, t -> t.same(2, 1));
            takes(0, two, t -> t.same(2, 2));
        }
        Scene sets = scene().holding(0, SET, 5, 6, 7).holding(1, SET, 7, 8).holding(2, SET);
        for (boolean less : new boolean[] {false, true}) {
            takes(3, sets, t -> t.meet(3, 0, 1, less));
            takes(2, sets, t -> t.meet(3, 1, 0, less));
            takes(3, sets, t -> t.meet(3, 0, 2, less));
            takes(0, sets, t -> t.meet(3, 2, 0, less));
        }
        movesOfOne();
    }

    private static void movesOfOne() {
        Scene sequence = scene().holding(0, SEQUENCE, 5, 6, 7).holding(1, SEQUENCE);
        takes(3, sequence, t -> t.map(2, 0, 0, 1));
        takes(0, sequence, t -> t.map(2, 1, 0, 1));
        takes(3, sequence, t -> t.filter(2, 0, 0, 0));
        takes(0, sequence, t -> t.filter(2, 1, 0, 0));
        takes(0, sequence, t -> t.turn(2, 0));
        Scene set = scene().holding(0, SET, 5, 6, 7).holding(1, SET);
        takes(3, set, t -> t.filter(2, 0, 0, 0));
        takes(0, set, t -> t.filter(2, 1, 0, 0));
        for (int kind : new int[] {MAP, TREE, SET}) {
            Scene keys = scene().holding(0, kind, 5, 6, 7).holding(1, kind);
            takes(3, keys, t -> t.turn(2, 0));
            takes(0, keys, t -> t.turn(2, 1));
        }
        // A STREAM of three whose CELLS are worked out to the end.
        Scene stream = scene().holding(0, STREAM, 5, 6, 7).tried(t -> t.at(0, 3)).holding(1, STREAM);
        takes(2, stream, t -> t.list(2, 0, 2));
        takes(3, stream, t -> t.list(2, 0, 3));
        takes(9, stream, t -> t.list(2, 0, 9));
        takes(9, stream, t -> t.list(2, 1, 9));
        takes(0, stream, t -> t.list(2, 0, 0));
    }

    private static void movesOfCalls() {
        // The list takes 1999, then 1000 each time.
        Scene scene = scene().thousand(0).with(t -> t.make(1, SEQUENCE)).times(18, t -> t.same(0, 1));
        scene.due(19999, t -> t.count(MOVES));
        scene.refuses(FULL, t -> t.same(0, 1));
        scene.refuses(FULL, t -> t.map(2, 0, 0, 0));
        Scene one = scene.with(t -> t.drop(2, 0, 999, true));
        one.with(t -> t.same(2, 1)).due(20000, t -> t.count(MOVES));
        one.with(t -> t.same(2, 1)).refuses(FULL, t -> t.same(2, 1));
        one.refuses(FULL, t -> t.same(2, 2));
        one.with(t -> t.same(1, 2)).numbers(3).refuses(FULL, t -> t.at(3, 1));
    }

    /** All that may be done when no MOVES are left. */
    private static void noMoves() {
        Scene scene = allKinds().leaving(0);
        Scene.Step[] calls = {
            t -> t.make(10, SEQUENCE), t -> t.copy(10, STREAM), t -> t.size(SET), t -> t.kind(SET),
            t -> t.add(10, SEQUENCE, 1), t -> t.add(10, QUEUE, 1), t -> t.add(10, HEAP, 1), t -> t.add(10, SET, 1),
            t -> t.push(10, SEQUENCE, 1), t -> t.push(10, STREAM, 1), t -> t.set(10, SEQUENCE, 0, 1),
            t -> t.at(SEQUENCE, 2), t -> t.at(MAP, 2), t -> t.at(SET, 2), t -> t.at(TREE, 2), t -> t.at(STREAM, 0),
            t -> t.drop(10, SEQUENCE, 3, true), t -> t.pop(10, SEQUENCE), t -> t.pop(10, QUEUE),
            t -> t.pop(10, HEAP), t -> t.front(QUEUE), t -> t.front(HEAP), t -> t.front(STREAM),
            t -> t.put(10, MAP, 1, 1), t -> t.put(10, TREE, 1, 1), t -> t.find(MAP, 5), t -> t.find(TREE, 5),
            t -> t.find(SET, 5), t -> t.out(10, MAP, 5), t -> t.out(10, TREE, 5), t -> t.out(10, SET, 5),
            t -> t.near(TREE, 5, 1), t -> t.join(10, STREAM, STREAM), t -> t.join(10, HEAP, HEAP),
            t -> t.shape(MAP), t -> t.map(10, STREAM, 0, 1), t -> t.filter(10, STREAM, 4, 0),
            t -> t.iterate(10, 0, 0, 1), t -> t.take(10, STREAM, 9), t -> t.turn(10, SEQUENCE),
            t -> t.open(3, SEQUENCE), t -> t.open(3, SET), t -> t.build(0, 0, 1, 1), t -> t.build(1, 0, 1, 1),
            t -> t.build(2, 2, 5, 1), t -> t.look(0, 1), t -> t.freeze(0, 10), t -> t.freeze(1, 10),
            t -> t.count(MOVES),
        };
        for (Scene.Step call : calls) {
            scene.goesWell(call);
            scene.with(call).due(20000, t -> t.count(MOVES));
        }
        // What is worked out is at hand without a MOVE.
        scene.due(20000, t -> t.at(22, 20000));
        scene.due(0, t -> t.pop(10, 22));
    }

    // ---------------------------------------------------------------- HASH

    private static void sixteenAlike(int grain) {
        for (int kind : new int[] {MAP, SET}) {
            Scene empty = scene(grain).with(t -> t.make(0, kind), t -> t.open(0, 0));
            Scene fifteen = empty.each(15, (t, i) -> withKey(t, kind, alike(grain, i, 9)));
            fifteen.due(16, t -> withKey(t, kind, alike(grain, 15, 9)));
            Scene full = fifteen.with(t -> withKey(t, kind, alike(grain, 15, 9)));
            full.refuses(FULL, t -> withKey(t, kind, alike(grain, 16, 9)));
            full.refuses(FULL, t -> withKey(t, kind, alike(grain, -1, 9)));
            for (int i = 0; i < 16; i++) {
                long there = alike(grain, i, 9);
                full.due(16, t -> withKey(t, kind, there));
                full.due(1, t -> t.find(0, there) == (kind == SET ? 1 : -there) ? 1 : 0);
                Scene less = full.with(t -> t.out(0, 0, there));
                less.due(15, t -> t.size(0));
                less.due(16, t -> withKey(t, kind, alike(grain, 16, 9)));
            }
            if (grain < 2) {
                full.due(17, t -> withKey(t, kind, alike(grain, 16, 8)));
                full.due(17, t -> withKey(t, kind, alike(grain, 16, 9 + 32)));
                full.due(17, t -> withKey(t, kind, alike(grain, 16, 9 + 128)));
            }
            builtAlike(grain, empty);
        }
        // A TREE has no HASHES.
        Scene tree = scene(grain).with(t -> t.make(0, TREE));
        tree.each(16, (t, i) -> t.put(0, 0, alike(grain, i, 9), 0)).due(17, t -> t.put(0, 0, alike(grain, 16, 9), 0));
    }

    private static int withKey(PersistentTrove t, int kind, long key) {
        return kind == SET ? t.add(0, 0, key) : t.put(0, 0, key, -key);
    }

    private static void builtAlike(int grain, Scene empty) {
        Scene full = empty.each(16, (t, i) -> t.build(0, 0, alike(grain, i, 9), 3));
        full.refuses(FULL, t -> t.build(0, 0, alike(grain, 16, 9), 3));
        full.due(16, t -> t.build(0, 0, alike(grain, 7, 9), 4));
        full.due(15, t -> t.build(0, 2, alike(grain, 7, 9), 4));
        full.with(t -> t.build(0, 2, alike(grain, 7, 9), 4)).due(16, t -> t.build(0, 0, alike(grain, 16, 9), 3));
        full.due(16, t -> t.freeze(0, 1));
        full.with(t -> t.freeze(0, 1)).refuses(FULL, t -> {
            if (t.kind(1) == SET) {
                t.add(2, 1, alike(grain, 16, 9));
            } else {
                t.put(2, 1, alike(grain, 16, 9), 0);
            }
        });
    }

    private static void sixteenJoined(int grain) {
        for (int kind : new int[] {MAP, SET}) {
            long[] first = new long[10];
            long[] then = new long[10];
            for (int i = 0; i < 10; i++) {
                first[i] = alike(grain, i, 9);
                then[i] = alike(grain, i + 6, 9);
            }
            // 0 .. 9 and 6 .. 15: four are in both.
            Scene two = scene(grain).holding(0, kind, first).holding(1, kind, then);
            two.due(16, t -> t.join(2, 0, 1));
            two.due(16, t -> t.join(2, 1, 0));
            Scene more = two.with(t -> t.join(3, 0, 1)).holding(1, kind, then).holding(4, kind, alike(grain, 16, 9));
            more.refuses(FULL, t -> t.join(2, 3, 4));
            more.refuses(FULL, t -> t.join(2, 4, 3));
            more.refuses(FULL, t -> t.join(3, 3, 4));
            more.due(16, t -> t.join(2, 3, 3));
            // Nothing but new ones, none of which is in the first.
            Scene apart = scene(grain).holding(0, kind, alike(grain, 50, 9));
            Scene fifteen = apart.with(t -> t.make(1, kind)).each(15, (t, i) -> put(t, 1, kind, alike(grain, i, 9)));
            fifteen.due(16, t -> t.join(2, 0, 1));
            fifteen.due(16, t -> t.join(2, 1, 0));
            Scene sixteen = fifteen.with(t -> put(t, 1, kind, alike(grain, 15, 9)));
            sixteen.refuses(FULL, t -> t.join(2, 0, 1));
            sixteen.refuses(FULL, t -> t.join(2, 1, 0));
            if (grain < 2) {
                sixteenOfEach(grain, kind);
            }
        }
    }

    /** For each HASH by itself: the sixteenth of one does not stand in the way of another's. */
    private static void sixteenOfEach(int grain, int kind) {
        Scene many = scene(grain).with(t -> t.make(0, kind), t -> t.make(1, kind))
                .each(30, (t, i) -> put(t, 0, kind, alike(grain, i / 2, 8 + i % 2)));
        Scene last = many.with(t -> put(t, 1, kind, alike(grain, 15, 8)), t -> put(t, 1, kind, alike(grain, 15, 9)));
        last.due(32, t -> t.join(2, 0, 1));
        last.due(32, t -> t.join(2, 1, 0));
        for (int hash = 8; hash <= 9; hash++) {
            int h = hash;
            Scene more = last.with(t -> put(t, 1, kind, alike(grain, 16, h)));
            more.refuses(FULL, t -> t.join(2, 0, 1));
            more.refuses(FULL, t -> t.join(2, 1, 0));
        }
    }

    private static int put(PersistentTrove t, int slot, int kind, long key) {
        return kind == SET ? t.add(slot, slot, key) : t.put(slot, slot, key, -key);
    }

    private static void eachKeyOnce() {
        Scene set = scene().holding(0, SET, 5, 5, 5);
        set.holds(0, 5);
        Scene map = scene().holding(0, MAP, 5).with(t -> t.put(0, 0, 5, 1), t -> t.put(0, 0, 5, 2));
        map.holds(0, 5);
        map.due(2, t -> t.find(0, 5));
        scene().holding(0, SET, 5, 1L << 32 | 5, 5).holds(0, 5, 1L << 32 | 5);
    }

    /** 0 and a key with one bit: they part at the level of this bit, or nowhere if the HASH has not got it. */
    private static void hashBits(int grain) {
        int known = grain == 0 ? 32 : grain == 1 ? 8 : 0;
        for (int bit = 0; bit < 64; bit++) {
            long key = 1L << bit;
            int level = bit < 30 ? bit / 5 : 6;
            int number = bit < 30 ? bit % 5 : bit - 30;
            int shape = bit < known ? below(level, node(1 | 1 << (1 << number), 0)) : below(7, 7 + 2);
            for (int kind : new int[] {MAP, SET}) {
                Scene scene = scene(grain).holding(0, kind, 0, key);
                scene.due(shape, t -> t.shape(0));
                if (key > 0) {
                    scene.holds(0, 0, key);
                } else {
                    scene.holds(0, key, 0);
                }
                // The one that is left stands in NODE 0 again.
                scene.with(t -> t.out(0, 0, key)).due(node(1, 0), t -> t.shape(0));
            }
        }
    }

    private static void lastBits() {
        long high = 1L << 31;
        long low = 1L << 30;
        Scene all = scene().holding(0, SET, high | low, high, low, 0);
        all.due(below(6, node(15, 0)), t -> t.shape(0));
        all.holds(0, 0, low, high, high | low);
        // Bit 32 is none of them.
        Scene more = all.with(t -> t.add(0, 0, 1L << 32));
        more.due(below(6, node(14, 1, 7 + 2)), t -> t.shape(0));
        more.holds(0, low, high, high | low, 0, 1L << 32);
        // Keys below 0 have the bits of an int below 0.
        Scene ones = scene().holding(0, SET, -1, -1 ^ low);
        int s = node(1 << 2 | 1 << 3, 0);
        for (int i = 0; i < 6; i++) {
            s = node(0, 1 << 31, s);
        }
        int shape = s;
        ones.due(shape, t -> t.shape(0));
        ones.holds(0, -1 ^ low, -1);
    }

    private static void oneKeyOrNode() {
        Scene one = scene().holding(0, SET, 3);
        one.due(node(1 << 3, 0), t -> t.shape(0));
        Scene two = one.with(t -> t.add(0, 0, 3 + 32));
        int pair = node(1 | 2, 0);
        two.due(node(0, 1 << 3, pair), t -> t.shape(0));
        Scene three = two.with(t -> t.add(0, 0, 3 + 32 + 1024));
        three.due(node(0, 1 << 3, node(1, 2, node(1 | 2, 0))), t -> t.shape(0));
        three.with(t -> t.out(0, 0, 3)).due(node(0, 1 << 3, node(0, 2, node(1 | 2, 0))), t -> t.shape(0));
        // Without the others each key goes up as far as it is alone.
        three.with(t -> t.out(0, 0, 3 + 32)).due(node(0, 1 << 3, pair), t -> t.shape(0));
        three.with(t -> t.out(0, 0, 3 + 32), t -> t.out(0, 0, 3)).due(node(1 << 3, 0), t -> t.shape(0));
        two.with(t -> t.add(0, 0, 4)).due(node(1 << 4, 1 << 3, pair), t -> t.shape(0));
        two.with(t -> t.add(0, 0, 2)).due(node(1 << 2, 1 << 3, pair), t -> t.shape(0));
        Scene filled = scene().with(t -> t.make(0, SET)).each(32, (t, i) -> t.add(0, 0, i));
        filled.due(node(-1, 0), t -> t.shape(0));
        Scene pairs = filled.each(32, (t, i) -> t.add(0, 0, i + 32));
        int[] below = new int[32];
        java.util.Arrays.fill(below, pair);
        pairs.due(node(0, -1, below), t -> t.shape(0));
    }

    private static void levelSeven() {
        long other = 1L << 32;
        long[] keys = {7 * other, -other, LEAST, 0, 3 * other, MOST >>> 32 << 32};
        Scene scene = scene().holding(0, SET, keys);
        scene.holds(0, LEAST, -other, 0, 3 * other, 7 * other, MOST >>> 32 << 32);
        scene.due(below(7, 7 + 6), t -> t.shape(0));
        scene.with(t -> t.out(0, 0, 0)).due(below(7, 7 + 5), t -> t.shape(0));
        Scene two = scene().holding(0, SET, 5, 6).with(t -> t.add(0, 0, other | 5));
        two.holds(0, 6, 5, other | 5);
        Scene full = scene(2).with(t -> t.make(0, SET)).each(16, (t, i) -> t.add(0, 0, 8 - i));
        full.due(below(7, 7 + 16), t -> t.shape(0));
        full.holds(0, -7, -6, -5, -4, -3, -2, -1, 0, 1, 2, 3, 4, 5, 6, 7, 8);
    }

    private static void order() {
        // Numbers 31 and 0 have one key, 1 and 30 have more: keys go first, whatever their numbers.
        Scene scene = scene().holding(0, SET, 1, 33, 31, 30, 62, 32);
        scene.holds(0, 32, 31, 1, 33, 30, 62);
        // In a NODE below, again: its keys (1 + 64, 1 + 96), then its NODE (1, 1 + 1024).
        Scene deeper = scene().holding(0, SET, 1, 1 + 1024, 1 + 96, 1 + 64, 9);
        deeper.holds(0, 9, 1 + 64, 1 + 96, 1, 1 + 1024);
        Scene map = scene().with(t -> t.make(0, MAP), t -> t.put(0, 0, 33, 1), t -> t.put(0, 0, 2, 2), t -> t.put(0, 0, 1, 3));
        map.holds(0, 2, 1, 33);
        map.with(t -> t.turn(1, 0)).holds(1, 2, 3, 1);
        scene.with(t -> t.turn(1, 0)).holds(1, 32, 31, 1, 33, 30, 62);
    }

    private static void shapeThatWraps() {
        // The bit of number 31 is the sign.
        scene().holding(0, SET, 31).due(17 * 961 + 31 * (1 << 31), t -> t.shape(0));
        scene().holding(0, SET, 31).due(-2147467311, t -> t.shape(0));
        scene().holding(0, SET, 31, 63).due(node(0, 1 << 31, node(3, 0)), t -> t.shape(0));
        scene().holding(0, SET, 1, 33, 2, 34).due(node(0, 6, node(3, 0), node(3, 0)), t -> t.shape(0));
        scene().holding(0, SET, 1, 33, 2, 66).due(node(0, 6, node(3, 0), node(5, 0)), t -> t.shape(0));
        scene().holding(0, SET, 1, 65, 2, 34).due(node(0, 6, node(5, 0), node(3, 0)), t -> t.shape(0));
    }

    private static void shapeOfNone() {
        for (int grain = 0; grain < 3; grain++) {
            for (int kind : new int[] {MAP, SET}) {
                scene(grain).holding(0, kind).due(17 * 31 * 31, t -> t.shape(0));
                scene(grain).holding(0, kind, 5).with(t -> t.out(0, 0, 5)).due(17 * 31 * 31, t -> t.shape(0));
                Scene built = scene(grain).holding(0, kind, 5).with(t -> t.open(0, 0), t -> t.build(0, 2, 5, 0));
                built.with(t -> t.freeze(0, 1)).due(17 * 31 * 31, t -> t.shape(1));
            }
        }
    }

    // ---------------------------------------------------------------- FUNCTIONS and TESTS

    private static void functionsByZero() {
        for (int f = 0; f <= 6; f++) {
            int code = f;
            // c is 0: of 4 and 6 that is the divisor.
            Scene scene = scene().holding(0, SEQUENCE, 7).holding(1, STREAM, 7).with(t -> t.iterate(2, 7, code, 0));
            long[] due = {7, 0, 0, 7, 0, 0, 0};
            if (f == 4 || f == 6) {
                scene.refuses(DIVISION, t -> t.map(3, 0, code, 0));
                scene.refusesCounting(1, 0, DIVISION, t -> t.map(3, 1, code, 0));
                scene.refusesCounting(1, 1, DIVISION, t -> t.at(2, 1));
            } else {
                scene.with(t -> t.map(3, 0, code, 0)).due(due[code], t -> t.at(3, 0));
                scene.with(t -> t.map(3, 1, code, 0)).due(due[code], t -> t.at(3, 0));
                scene.due(due[code], t -> t.at(2, 1));
            }
            // x is 0: of 5 that is the divisor.
            Scene zero = scene().holding(0, SEQUENCE, 0).holding(1, STREAM, 0).with(t -> t.iterate(2, 0, code, 7));
            long[] dueOfZero = {7, 0, 0, 7, 0, 0, 0};
            if (f == 5) {
                zero.refuses(DIVISION, t -> t.map(3, 0, code, 7));
                zero.refusesCounting(1, 0, DIVISION, t -> t.map(3, 1, code, 7));
                zero.refusesCounting(1, 1, DIVISION, t -> t.at(2, 1));
            } else {
                zero.with(t -> t.map(3, 0, code, 7)).due(dueOfZero[code], t -> t.at(3, 0));
                zero.with(t -> t.map(3, 1, code, 7)).due(dueOfZero[code], t -> t.at(3, 0));
                zero.due(dueOfZero[code], t -> t.at(2, 1));
            }
            // With none there is nothing to divide.
            Scene empty = scene().holding(0, SEQUENCE).holding(1, STREAM);
            empty.goesWell(t -> t.map(3, 0, code, 0));
            empty.goesWell(t -> t.map(3, 1, code, 0));
        }
    }

    /** f of each, by a SEQUENCE, by a STREAM and by iterate. */
    private static void function(int f, long c, long x, long want) {
        scene().holding(0, SEQUENCE, x).with(t -> t.map(0, 0, f, c)).holds(0, want);
        scene().holding(0, STREAM, x).with(t -> t.map(0, 0, f, c)).holds(0, want);
        scene().holding(0, STREAM, 1, x).with(t -> t.map(0, 0, f, c)).due(want, t -> t.at(0, 1));
        scene().with(t -> t.iterate(0, x, f, c)).due(want, t -> t.at(0, 1));
    }

    private static void signs() {
        function(4, 2, 7, 3);
        function(4, 2, -7, -3);
        function(4, -2, 7, -3);
        function(4, -2, -7, 3);
        function(6, 4, 7, 3);
        function(6, 4, -7, -3);
        function(6, -4, 7, 3);
        function(6, -4, -7, -3);
        function(6, 4, 8, 0);
        function(5, 7, 2, 3);
        function(5, 7, -2, -3);
        function(5, -7, 2, -3);
        function(5, -7, 8, 0);
    }

    private static void longsWrap() {
        function(0, 1, MOST, LEAST);
        function(0, -1, LEAST, MOST);
        function(1, 2, MOST, -2);
        function(1, -1, LEAST, LEAST);
        function(1, LEAST, 2, 0);
        function(4, -1, LEAST, LEAST);
        function(4, 1, LEAST, LEAST);
        function(5, LEAST, -1, LEAST);
        function(6, -1, LEAST, 0);
        function(6, LEAST, LEAST, 0);
        function(6, MOST, LEAST, -1);
        function(2, LEAST, -1, LEAST);
        function(2, MOST, LEAST, 0);
        function(3, -1, LEAST, MOST);
        function(3, LEAST, LEAST, 0);
    }

    /** Which of these pass, by a SEQUENCE, a SET and a STREAM; no two have a HASH in common. */
    private static void passing(int test, long c, long[] from, long... want) {
        scene().holding(0, SEQUENCE, from).with(t -> t.filter(1, 0, test, c)).holds(1, want);
        scene().holding(0, STREAM, from).with(t -> t.filter(1, 0, test, c)).holds(1, want);
        Scene sets = scene().holding(0, SET, from).with(t -> t.filter(1, 0, test, c)).holding(2, SET, want);
        sets.alike(1, sets, 2);
        sets.due(1, t -> t.same(1, 2) ? 1 : 0);
    }

    private static void tests() {
        long[] mixed = {LEAST, -4, -1, 0, 1, 3, 4, 5, MOST};
        passing(0, 4, mixed, LEAST, -4, -1, 0, 1, 3);
        passing(0, LEAST, mixed);
        passing(0, MOST, mixed, LEAST, -4, -1, 0, 1, 3, 4, 5);
        passing(0, LEAST + 1, mixed, LEAST);
        passing(1, 4, mixed, -4, -1, 4, 5, MOST);
        passing(1, 0, mixed);
        passing(1, LEAST, mixed, LEAST, -4, -1);
        passing(1, -1, mixed, LEAST, -4, -1, 1, 3, 4, 5, MOST);
        passing(2, 4, mixed, 4);
        passing(2, 6, mixed);
        passing(2, LEAST, mixed, LEAST);
        passing(2, 0, mixed, 0);
        passing(3, 4, mixed, LEAST, -4, 0, 4);
        passing(3, -1, mixed, mixed);
        passing(3, 1, mixed, mixed);
        passing(3, LEAST, mixed, LEAST, 0);
        passing(4, 0, mixed, mixed);
        for (int test = 0; test <= 4; test++) {
            int code = test;
            Scene one = scene().holding(0, SEQUENCE, 0).holding(1, SET, 0).holding(2, STREAM, 0);
            if (test == 3) {
                one.refuses(DIVISION, t -> t.filter(3, 0, code, 0));
                one.refuses(DIVISION, t -> t.filter(3, 1, code, 0));
                one.refusesCounting(1, 0, DIVISION, t -> t.filter(3, 2, code, 0));
            } else {
                one.goesWell(t -> t.filter(3, 0, code, 0));
                one.goesWell(t -> t.filter(3, 1, code, 0));
                one.goesWell(t -> t.filter(3, 2, code, 0));
            }
            allEmpty().goesWell(t -> t.filter(10, SEQUENCE, code, 0));
            allEmpty().goesWell(t -> t.filter(10, SET, code, 0));
            allEmpty().goesWell(t -> t.filter(10, STREAM, code, 0));
        }
    }

    /** Slot 1 holds the STREAM 6, then what 6 / 0 would be. */
    private static Scene broken() {
        return scene().holding(0, STREAM, 1, 0, 2).with(t -> t.map(1, 0, 5, 6));
    }

    private static void goesThrough() {
        Scene scene = broken();
        scene.refusesCounting(1, 2, DIVISION, t -> t.at(1, 1));
        scene.refusesCounting(1, 2, DIVISION, t -> t.at(1, 2));
        scene.refusesCounting(1, 2, DIVISION, t -> t.pop(2, 1));
        scene.refusesCounting(1, 2, DIVISION, t -> t.pop(1, 1));
        scene.refusesCounting(1, 2, DIVISION, t -> t.list(2, 1, 2));
        // Its test of 6 is one CALL more.
        scene.refusesCounting(2, 2, DIVISION, t -> t.filter(2, 1, 0, 6));
        scene.due(6, t -> t.at(1, 0));
        scene.due(6, t -> t.front(1));
        scene.due(1, t -> t.list(2, 1, 1));
        // Through what is made of it, too; its own CELL takes a MOVE more.
        scene.with(t -> t.map(2, 1, 0, 1)).refusesCounting(1, 3, DIVISION, t -> t.at(2, 1));
        scene.with(t -> t.filter(2, 1, 4, 1)).refusesCounting(1, 3, DIVISION, t -> t.pop(3, 2));
        scene.with(t -> t.take(2, 1, 2)).refusesCounting(1, 3, DIVISION, t -> t.list(2, 2, 2));
        scene.with(t -> t.join(2, 1, 0)).refusesCounting(1, 3, DIVISION, t -> t.at(2, 9));
        scene.with(t -> t.push(2, 1, 8)).refusesCounting(1, 2, DIVISION, t -> t.at(2, 2));
        scene.with(t -> t.copy(2, 1)).refusesCounting(1, 2, DIVISION, t -> t.at(2, 1));
        scene.with(t -> t.push(2, 1, 8)).due(6, t -> t.at(2, 1));
        scene.with(t -> t.take(2, 1, 1)).refuses(NONE, t -> t.at(2, 1));
    }

    // ---------------------------------------------------------------- STREAMS and CELLS

    private static void emptyOrMore() {
        Scene empty = scene().holding(0, STREAM);
        empty.refuses(NONE, t -> t.front(0));
        empty.refuses(NONE, t -> t.pop(0, 0));
        empty.refuses(NONE, t -> t.at(0, 0));
        empty.due(0, t -> t.list(1, 0, 5));
        Scene one = scene().holding(0, STREAM, 5);
        one.due(5, t -> t.front(0));
        one.due(5, t -> t.pop(0, 0));
        one.with(t -> t.pop(0, 0)).refuses(NONE, t -> t.front(0));
        one.with(t -> t.pop(0, 0)).refuses(NONE, t -> t.pop(0, 0));
        one.with(t -> t.pop(0, 0)).due(STREAM, t -> t.kind(0));
        // To see that there are no more, the CELL behind the last is worked out.
        one.refusesCounting(0, 1, NONE, t -> t.at(0, 1));
        one.tried(t -> t.at(0, 1)).refuses(NONE, t -> t.at(0, 1));
    }

    private static void workedOutOnce() {
        Scene numbers = scene().numbers(0);
        numbers.with(t -> t.at(0, 3)).dueCounts(3, 3);
        numbers.with(t -> t.at(0, 3), t -> t.at(0, 3), t -> t.at(0, 2)).dueCounts(3, 3);
        numbers.with(t -> t.at(0, 3), t -> t.at(0, 4)).dueCounts(4, 4);
        numbers.with(t -> t.pop(1, 0), t -> t.pop(1, 0)).dueCounts(1, 1);
        numbers.with(t -> t.list(1, 0, 3), t -> t.list(1, 0, 3)).dueCounts(2, 2 + 3 + 3);
        // All that share a CELL have it worked out.
        Scene shared = numbers.with(t -> t.copy(1, 0), t -> t.push(2, 0, 9), t -> t.at(1, 3));
        shared.with(t -> t.at(0, 3), t -> t.at(2, 4)).dueCounts(3, 3);
        Scene popped = numbers.with(t -> t.pop(1, 0), t -> t.at(1, 2));
        popped.with(t -> t.at(0, 3)).dueCounts(3, 3);
        Scene mapped = numbers.with(t -> t.map(1, 0, 0, 5), t -> t.at(1, 3));
        mapped.dueCounts(1 + 6, 6);
        mapped.with(t -> t.at(1, 3), t -> t.at(0, 3)).dueCounts(1 + 6, 6);
        Scene filtered = numbers.with(t -> t.filter(1, 0, 3, 2), t -> t.at(1, 1));
        filtered.dueCounts(1 + 2 + 2, 1 + 2);
        filtered.with(t -> t.at(1, 1), t -> t.at(0, 2)).dueCounts(5, 3);
        Scene taken = numbers.with(t -> t.take(1, 0, 9), t -> t.at(1, 3));
        taken.with(t -> t.at(1, 3), t -> t.at(0, 3)).dueCounts(3, 6);
        Scene joined = numbers.with(t -> t.take(1, 0, 2), t -> t.join(2, 1, 0), t -> t.at(2, 4));
        // Two CELLS of the join, one of the take (its last needs nothing), two of the numbers.
        joined.dueCounts(2, 2 + 1 + 2);
        joined.with(t -> t.at(2, 4)).dueCounts(2, 5);
        Scene turned = scene().holding(0, STREAM, 5, 6).tried(t -> t.at(0, 2));
        turned.dueCounts(0, 2);
        turned.tried(t -> t.at(0, 2)).dueCounts(0, 2);
        // A filter that found no more keeps that, too.
        Scene ended = scene().holding(0, STREAM, 1, 2, 3).with(t -> t.filter(1, 0, 2, 1)).tried(t -> t.at(1, 1));
        ended.dueCounts(3, 4);
        ended.tried(t -> t.at(1, 1)).dueCounts(3, 4);
    }

    private static void triedAnew() {
        Scene iterated = scene().with(t -> t.iterate(0, 8, 4, 0));
        iterated.refusesCounting(1, 1, DIVISION, t -> t.at(0, 1));
        Scene once = iterated.tried(t -> t.at(0, 1));
        once.refusesCounting(1, 1, DIVISION, t -> t.at(0, 1));
        once.tried(t -> t.pop(0, 0)).refusesCounting(1, 1, DIVISION, t -> t.list(1, 0, 5));
        // The map's CELL is tried anew, the one of the turned SEQUENCE is kept.
        Scene mapped = broken().tried(t -> t.at(1, 1));
        mapped.refusesCounting(1, 1, DIVISION, t -> t.at(1, 1));
        mapped.due(0, t -> t.at(0, 1));
        // The filter's CELL looks again at those that it had passed by.
        Scene filtered = scene().holding(0, STREAM, 1, 2, 3, 0).with(t -> t.map(1, 0, 5, 6), t -> t.filter(2, 1, 2, 6));
        filtered.dueCounts(2, 0);
        // Its CELL, three of the map and three turned; tests of 3 and 2, functions of 2, 3 and 0.
        filtered.refusesCounting(5, 7, DIVISION, t -> t.at(2, 1));
        filtered.tried(t -> t.at(2, 1)).refusesCounting(3, 2, DIVISION, t -> t.at(2, 1));
        Scene taken = broken().with(t -> t.take(2, 1, 5)).tried(t -> t.at(2, 1));
        taken.refusesCounting(1, 2, DIVISION, t -> t.at(2, 1));
        Scene joined = broken().with(t -> t.join(2, 1, 0)).tried(t -> t.at(2, 1));
        joined.refusesCounting(1, 2, DIVISION, t -> t.at(2, 1));
    }

    private static void notBefore() {
        Scene numbers = scene().numbers(0);
        numbers.dueCounts(0, 0);
        numbers.with(t -> t.copy(1, 0)).dueCounts(0, 0);
        numbers.with(t -> t.push(1, 0, 7), t -> t.at(1, 1)).dueCounts(0, 0);
        numbers.with(t -> t.front(0), t -> t.at(0, 0)).dueCounts(0, 0);
        numbers.with(t -> t.take(1, 0, 5), t -> t.front(1)).dueCounts(0, 0);
        numbers.with(t -> t.join(1, 0, 0), t -> t.front(1)).dueCounts(0, 0);
        numbers.holding(1, STREAM).with(t -> t.join(2, 1, 0), t -> t.front(2)).dueCounts(0, 0);
        numbers.with(t -> t.map(1, 0, 0, 5), t -> t.front(1)).dueCounts(1, 0);
        numbers.with(t -> t.filter(1, 0, 2, 0), t -> t.front(1)).dueCounts(1, 0);
        numbers.with(t -> t.list(1, 0, 1)).dueCounts(0, 1);
        scene().holding(0, STREAM, 5, 6, 7).dueCounts(0, 0);
        // What can't be worked out is no matter before it is needed.
        Scene never = scene().with(t -> t.iterate(0, 8, 4, 0));
        never.goesWell(t -> t.copy(1, 0));
        never.goesWell(t -> t.push(1, 0, 7));
        never.goesWell(t -> t.take(1, 0, 5));
        never.goesWell(t -> t.join(1, 0, 0));
        never.goesWell(t -> t.map(1, 0, 0, 1));
        never.goesWell(t -> t.filter(1, 0, 4, 1));
        never.goesWell(t -> t.list(1, 0, 1));
        never.with(t -> t.push(0, 0, 7)).due(7, t -> t.pop(0, 0));
        // Of the second in a join nothing is needed before the first has ended.
        Scene late = scene().holding(0, STREAM, 1, 2).numbers(1).with(t -> t.join(2, 0, 1));
        late.with(t -> t.at(2, 2)).dueCounts(0, 4);
        late.with(t -> t.at(2, 3)).dueCounts(1, 5);
    }

    private static void countedAsItBegins() {
        Scene scene = scene().holding(0, STREAM, 0, 1);
        scene.refusesCounting(1, 0, DIVISION, t -> t.map(1, 0, 5, 6));
        scene.refusesCounting(1, 0, DIVISION, t -> t.map(1, 0, 4, 0));
        scene.refusesCounting(1, 0, DIVISION, t -> t.filter(1, 0, 3, 0));
        scene.with(t -> t.map(1, 0, 0, 0)).dueCounts(1, 0);
        scene.with(t -> t.filter(1, 0, 4, 0)).dueCounts(1, 0);
        scene().with(t -> t.iterate(0, 1, 6, 0)).refusesCounting(1, 1, DIVISION, t -> t.at(0, 1));
        // For others than STREAMS none is counted.
        Scene others = scene().holding(0, SEQUENCE, 1, 2).holding(1, SET, 1, 2);
        others.with(t -> t.map(0, 0, 0, 1), t -> t.filter(0, 0, 4, 0), t -> t.filter(1, 1, 4, 0)).dueCounts(0, 6);
        others.refuses(DIVISION, t -> t.map(0, 0, 4, 0));
        others.refuses(DIVISION, t -> t.filter(0, 0, 3, 0));
    }

    private static void moveAsItBegins() {
        // A turned SEQUENCE: each rest is a CELL, the last one's too.
        Scene turned = scene().holding(0, STREAM, 5, 6);
        turned.with(t -> t.at(0, 1)).dueCounts(0, 1);
        turned.with(t -> t.at(0, 1), t -> t.pop(1, 0)).dueCounts(0, 1);
        turned.tried(t -> t.at(0, 2)).dueCounts(0, 2);
        turned.tried(t -> t.at(0, 9)).dueCounts(0, 2);
        scene().numbers(0).with(t -> t.at(0, 1)).dueCounts(1, 1);
        // One made of another has a CELL of its own.
        scene().numbers(0).with(t -> t.map(1, 0, 0, 1), t -> t.at(1, 1)).dueCounts(3, 2);
        scene().numbers(0).with(t -> t.filter(1, 0, 4, 1), t -> t.at(1, 1)).dueCounts(3, 2);
        scene().numbers(0).with(t -> t.take(1, 0, 2), t -> t.at(1, 1)).dueCounts(1, 2);
        scene().numbers(0).with(t -> t.join(1, 0, 0), t -> t.at(1, 1)).dueCounts(1, 2);
        // What stands behind a pushed one is at hand, and has no CELL to be worked out.
        scene().numbers(0).with(t -> t.push(0, 0, 7), t -> t.at(0, 1)).dueCounts(0, 0);
        scene().numbers(0).with(t -> t.push(0, 0, 7), t -> t.at(0, 2)).dueCounts(1, 1);
        scene().holding(0, STREAM).with(t -> t.push(0, 0, 7)).refuses(NONE, t -> t.at(0, 1));
        // The move is taken though the function throws.
        scene().with(t -> t.iterate(0, 8, 4, 0)).refusesCounting(1, 1, DIVISION, t -> t.at(0, 1));
    }

    private static void noMoveForCell() {
        Scene two = scene().numbers(0).leaving(2);
        two.due(2, t -> t.at(0, 2));
        two.refusesCounting(2, 2, FULL, t -> t.at(0, 3));
        two.refusesCounting(2, 2, FULL, t -> t.at(0, Integer.MAX_VALUE));
        Scene none = scene().numbers(0).holding(1, STREAM, 5).leaving(0);
        none.refuses(FULL, t -> t.at(0, 1));
        none.refuses(FULL, t -> t.pop(2, 0));
        none.refuses(FULL, t -> t.pop(0, 0));
        none.refuses(FULL, t -> t.at(1, 1));
        none.refuses(FULL, t -> t.pop(1, 1));
        none.refuses(FULL, t -> t.list(2, 0, 1));
        none.refusesCounting(1, 0, FULL, t -> t.filter(2, 0, 2, 5));
        none.due(0, t -> t.front(0));
        // Through what is made of it: the outer CELL begins, the inner one finds no MOVE.
        Scene outer = scene().numbers(0).with(t -> t.map(1, 0, 0, 5), t -> t.filter(2, 0, 4, 5), t -> t.take(3, 0, 9),
                t -> t.join(4, 0, 0)).leaving(1);
        for (int slot = 1; slot <= 4; slot++) {
            int s = slot;
            outer.refusesCounting(0, 1, FULL, t -> t.at(s, 1));
            outer.refusesCounting(0, 1, FULL, t -> t.pop(s, s));
        }
        Scene filter = scene().numbers(0).leaving(5);
        filter.with(t -> t.filter(1, 0, 2, 5)).due(5, t -> t.front(1));
        filter.refusesCounting(5 + 6, 5, FULL, t -> t.filter(1, 0, 2, 6));
    }

    private static void whatIsMetFirst() {
        // The MOVE of a CELL comes before its CALL.
        Scene iterated = scene().with(t -> t.iterate(0, 8, 4, 0));
        iterated.leaving(0).refuses(FULL, t -> t.at(0, 1));
        iterated.leaving(1).refusesCounting(1, 1, DIVISION, t -> t.at(0, 1));
        iterated.leaving(1).tried(t -> t.at(0, 1)).refuses(FULL, t -> t.at(0, 1));
        // A map's CELL needs the one that it is made of, then its function.
        broken().leaving(0).refuses(FULL, t -> t.at(1, 1));
        broken().leaving(1).refusesCounting(0, 1, FULL, t -> t.at(1, 1));
        broken().leaving(2).refusesCounting(1, 2, DIVISION, t -> t.at(1, 1));
        broken().with(t -> t.at(0, 1)).leaving(1).refusesCounting(1, 1, DIVISION, t -> t.at(1, 1));
        // A filter: the test of the first comes before any CELL.
        Scene numbers = scene().numbers(0).leaving(0);
        numbers.refusesCounting(1, 0, DIVISION, t -> t.filter(1, 0, 3, 0));
        numbers.refusesCounting(1, 0, FULL, t -> t.filter(1, 0, 2, 7));
        // First 1 / 0 in the one that it is made of, at its second ELEMENT.
        broken().leaving(2).refusesCounting(2, 2, DIVISION, t -> t.filter(2, 1, 2, 7));
        broken().leaving(1).refusesCounting(1, 1, FULL, t -> t.filter(2, 1, 2, 7));
        // The end of a STREAM is found only by working out its last CELL.
        scene().holding(0, STREAM, 5).leaving(0).refuses(FULL, t -> t.at(0, 1));
        scene().holding(0, STREAM, 5).leaving(1).refusesCounting(0, 1, NONE, t -> t.at(0, 1));
        scene().holding(0, STREAM, 5).leaving(1).refusesCounting(0, 1, NONE, t -> t.at(0, 2));
    }

    private static void staySo() {
        Scene scene = scene().numbers(0).leaving(3).tried(t -> t.at(0, 9));
        scene.due(20000, t -> t.count(MOVES));
        scene.due(3, t -> t.at(0, 3));
        scene.refuses(FULL, t -> t.at(0, 4));
        scene.due(0, t -> t.pop(0, 0));
        // 6, 3, 2 and then a division by 0; the list is refused, but three are worked out.
        Scene divided = scene().holding(0, STREAM, 1, 2, 3, 0).with(t -> t.map(1, 0, 5, 6)).tried(t -> t.list(2, 1, 4));
        divided.dueCounts(4, 6);
        divided.due(-1, t -> t.kind(2));
        divided.with(t -> t.at(1, 2), t -> t.at(0, 3)).dueCounts(4, 6);
        // A filter that is refused has worked out what it looked at.
        Scene sought = scene().holding(0, STREAM, 1, 2, 3, 0).with(t -> t.map(1, 0, 5, 6)).tried(t -> t.filter(2, 1, 0, 2));
        sought.dueCounts(4 + 3, 6);
        sought.due(-1, t -> t.kind(2));
        sought.with(t -> t.at(1, 2)).dueCounts(7, 6);
        Scene past = scene().holding(0, STREAM, 5, 6).tried(t -> t.at(0, 7));
        past.with(t -> t.at(0, 1)).dueCounts(0, 2);
    }

    // ---------------------------------------------------------------- DEPTH

    private static final int DEEPEST = 100;

    private static void deepen(PersistentTrove t, int way, int slot) {
        switch (way) {
            case 0:
                t.map(slot, slot, 0, 1);
                break;
            case 1:
                t.filter(slot, slot, 4, 0);
                break;
            case 2:
                t.take(slot, slot, 5);
                break;
            case 3:
                t.join(slot, slot, 23);
                break;
            default:
                t.join(slot, 23, slot);
                break;
        }
    }

    /** Slot 23 holds a STREAM of DEPTH 0, to be joined with; slot 0's is one deeper for each call. */
    private static Scene deeper(Scene scene, int way, int times) {
        return scene.with(t -> t.iterate(23, 0, 0, 1)).times(times, t -> deepen(t, way, 0));
    }

    /** What slot 0 holds has this DEPTH: it can be made deeper as often as that, and once more not. */
    private static void hasDepth(int depth, Scene scene) {
        Scene last = scene.times(DEEPEST - depth, t -> t.take(0, 0, 5));
        last.refuses(FULL, t -> t.take(1, 0, 5));
        last.refuses(FULL, t -> t.take(0, 0, 0));
        if (depth < DEEPEST) {
            scene.times(DEEPEST - depth - 1, t -> t.take(0, 0, 5)).goesWell(t -> t.take(0, 0, 5));
        }
    }

    private static void depthFromNothing() {
        hasDepth(0, scene().holding(0, STREAM));
        hasDepth(0, scene().with(t -> t.make(0, STREAM)));
        hasDepth(0, scene().numbers(0));
        hasDepth(0, scene().with(t -> t.make(0, SEQUENCE), t -> t.turn(0, 0)));
        hasDepth(0, scene().holding(0, STREAM, 5, 6));
        // What was deep is not any more, when it is listed and turned.
        Scene deep = deeper(scene().numbers(0), 2, DEEPEST);
        hasDepth(0, deep.with(t -> t.list(0, 0, 3), t -> t.turn(0, 0)));
        hasDepth(0, deep.with(t -> t.make(0, STREAM)));
        hasDepth(0, deep.numbers(0));
    }

    private static void depthOfFrom() {
        for (int depth : new int[] {0, 1, 99, DEEPEST}) {
            Scene deep = deeper(scene().numbers(0), 2, depth);
            hasDepth(depth, deep.with(t -> t.copy(2, 0), t -> t.copy(0, 2)));
            hasDepth(depth, deep.with(t -> t.push(0, 0, 7)));
            hasDepth(depth, deep.times(50, t -> t.push(0, 0, 7)));
            hasDepth(depth, deep.with(t -> t.pop(0, 0)));
            // To the end, and beyond what it was made of.
            hasDepth(depth, deep.with(t -> t.pop(0, 0), t -> t.pop(0, 0), t -> t.push(0, 0, 7), t -> t.pop(0, 0)));
        }
        // Behind the first one's end there is the second alone, but the DEPTH stays.
        Scene joined = scene().holding(0, STREAM, 5).numbers(1).with(t -> t.join(0, 0, 1), t -> t.pop(0, 0));
        hasDepth(1, joined);
    }

    private static void oneDeeper() {
        for (int way = 0; way < 5; way++) {
            int w = way;
            hasDepth(1, deeper(scene().numbers(0), w, 1));
            hasDepth(99, deeper(scene().numbers(0), w, 99));
            Scene deepest = deeper(scene().numbers(0), w, DEEPEST);
            hasDepth(DEEPEST, deepest);
            for (int next = 0; next < 5; next++) {
                int n = next;
                deeper(scene().numbers(0), w, 99).goesWell(t -> deepen(t, n, 0));
                // The first ELEMENT of a map and of a filter is worked out at once, as a CALL.
                deepest.refusesCounting(n < 2 ? 1 : 0, 0, FULL, t -> deepen(t, n, 0));
            }
            // An empty one has a DEPTH like any other.
            Scene empty = deeper(scene().holding(0, STREAM), w == 3 || w == 4 ? 0 : w, DEEPEST);
            empty.refuses(FULL, t -> t.map(1, 0, 0, 1));
            empty.refuses(FULL, t -> t.filter(1, 0, 4, 1));
            empty.refuses(FULL, t -> t.take(1, 0, 1));
            empty.refuses(FULL, t -> t.join(1, 0, 23));
            empty.refuses(FULL, t -> t.join(1, 23, 0));
        }
        hasDepth(1, scene().numbers(0).with(t -> t.take(0, 0, 0)));
        hasDepth(1, scene().numbers(0).with(t -> t.filter(0, 0, 0, 0), t -> t.copy(0, 0)));
    }

    private static void greatestDepth() {
        for (int depth : new int[] {0, 1, 60, 99}) {
            Scene two = deeper(scene().numbers(0), 2, depth);
            hasDepth(depth + 1, two.with(t -> t.join(0, 0, 23)));
            hasDepth(depth + 1, two.with(t -> t.join(0, 23, 0)));
            hasDepth(depth + 1, two.with(t -> t.join(0, 0, 0)));
        }
        Scene both = deeper(scene().numbers(0), 2, 40).numbers(1).times(70, t -> t.take(1, 1, 5));
        hasDepth(71, both.with(t -> t.join(0, 0, 1)));
        hasDepth(71, both.with(t -> t.join(0, 1, 0)));
        // An empty one that is deep gives its DEPTH as well.
        Scene empty = scene().numbers(0).holding(1, STREAM).times(50, t -> t.take(1, 1, 5));
        hasDepth(51, empty.with(t -> t.join(0, 0, 1)));
        hasDepth(51, empty.with(t -> t.join(0, 1, 0)));
    }

    private static void deepestWorks() {
        Scene mapped = deeper(scene().numbers(0), 0, DEEPEST);
        mapped.due(105, t -> t.at(0, 5));
        mapped.with(t -> t.at(0, 5)).dueCounts(DEEPEST + 5 * 101, 5 * 101);
        Scene filtered = deeper(scene().numbers(0), 1, DEEPEST);
        filtered.due(5, t -> t.at(0, 5));
        filtered.with(t -> t.at(0, 5)).dueCounts(DEEPEST + 5 * 101, 5 * 101);
        Scene taken = deeper(scene().numbers(0), 2, DEEPEST);
        taken.due(4, t -> t.at(0, 4));
        taken.with(t -> t.at(0, 4)).refuses(NONE, t -> t.at(0, 5));
        Scene joined = scene().holding(0, STREAM, 5).holding(1, STREAM, 6).times(DEEPEST, t -> t.join(0, 0, 1));
        joined.due(6, t -> t.at(0, DEEPEST));
        joined.fails(NONE, t -> t.at(0, DEEPEST + 1));
        // A MOVE for each of 100 CELLS that begin, and none for the one below them all.
        mapped.leaving(DEEPEST).refusesCounting(0, DEEPEST, FULL, t -> t.at(0, 1));
        mapped.leaving(DEEPEST + 1).due(101, t -> t.at(0, 1));
    }

    // ---------------------------------------------------------------- BUILDERS

    private static void openTillFreeze() {
        Scene scene = scene().holding(0, SEQUENCE, 5).holding(1, MAP, 5).holding(2, SET, 5);
        scene.due(0, t -> t.count(OPEN));
        for (int builder = 0; builder < 4; builder++) {
            int b = builder;
            for (int from = 0; from < 3; from++) {
                int f = from;
                Scene opened = scene.with(t -> t.open(b, f));
                opened.due(1, t -> t.count(OPEN));
                opened.refuses(STATE, t -> t.open(b, f));
                opened.due(1, t -> t.freeze(b, 9));
                Scene frozen = opened.with(t -> t.freeze(b, 9));
                frozen.due(0, t -> t.count(OPEN));
                frozen.alike(9, scene, f);
                frozen.refuses(STATE, t -> t.freeze(b, 9));
                frozen.refuses(STATE, t -> t.look(b, 5));
                frozen.refuses(STATE, t -> t.build(b, 0, 5, 5));
                frozen.with(t -> t.open(b, (f + 1) % 3)).due(1, t -> t.freeze(b, 9));
            }
            scene.refuses(STATE, t -> t.build(b, 0, 0, 0));
            scene.refuses(STATE, t -> t.look(b, 0));
            scene.refuses(STATE, t -> t.freeze(b, 0));
        }
        Scene all = scene.each(4, (t, i) -> t.open(i, 2));
        all.due(4, t -> t.count(OPEN));
        // Each works by itself.
        Scene built = all.each(4, (t, i) -> t.build(i, 0, 37 + 32 * i, 0)).each(4, (t, i) -> t.freeze(i, 10 + i));
        for (int i = 0; i < 4; i++) {
            built.holds(10 + i, 5, 37 + 32 * i);
        }
        built.holds(2, 5);
    }

    private static void madeOfStays() {
        Scene sequence = scene().holding(0, SEQUENCE, 5, 6, 7).with(t -> t.open(0, 0));
        Scene built = sequence.with(t -> t.build(0, 1, 0, 9), t -> t.build(0, 2, 0, 0), t -> t.build(0, 0, 0, 8));
        built.holds(0, 5, 6, 7);
        built.with(t -> t.freeze(0, 1)).holds(0, 5, 6, 7);
        built.with(t -> t.freeze(0, 1)).holds(1, 9, 6, 8);
        built.with(t -> t.freeze(0, 0)).holds(0, 9, 6, 8);
        for (int kind : new int[] {MAP, SET}) {
            Scene before = several(kind);
            Scene keys = before.with(t -> t.open(0, 0), t -> t.build(0, 0, 37, 1), t -> t.build(0, 2, 1029, 0),
                    t -> t.build(0, 0, 69, 1), t -> t.build(0, 2, 5, 0));
            keys.alike(0, before, 0);
            Scene frozen = keys.with(t -> t.freeze(0, 1));
            frozen.alike(0, before, 0);
            // What was frozen stays, too, when the builder goes on with it.
            Scene again = frozen.with(t -> t.open(0, 1), t -> t.build(0, 0, 37, 2), t -> t.build(0, 2, 69, 0),
                    t -> t.build(0, 0, 2053, 2), t -> t.freeze(0, 2));
            again.alike(1, frozen, 1);
            again.alike(0, before, 0);
            again.due(4, t -> t.size(2));
        }
        // The slot may get something else: the builder has what it was opened with.
        Scene gone = scene().holding(0, SET, 5).with(t -> t.open(0, 0), t -> t.make(0, HEAP));
        gone.with(t -> t.freeze(0, 1)).holds(1, 5);
    }
}
