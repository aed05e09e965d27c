/** Each sentence of promises 1 to 32 that names a boundary case; that numbers are in range is tested elsewhere. */
public final class PromiseBoundaryTests extends Boundary {
    public static void main(String[] args) {
        promisesOfAllKinds();
        promisesOfElements();
        promisesOfKeys();
        promisesOfTwo();
        promisesOfFunctions();
        promisesOfStreams();
        promisesOfBuilders();
        end();
    }

    private static void promisesOfAllKinds() {
        sentence("1: grain modulo 3, 0 .. 2 (-1 gives 2, -3 gives 0)", PromiseBoundaryTests::grains);
        sentence("1: All SLOTS are empty", PromiseBoundaryTests::newObject);
        sentence("2: kind 0 .. 6. The SLOT holds an empty one of that KIND", PromiseBoundaryTests::make);
        sentence("3: The SLOT holds what from holds", PromiseBoundaryTests::copy);
        sentence("4: How many (of a STREAM, as of none: IllegalStateException)", PromiseBoundaryTests::size);
        sentence("5: The KIND; -1 for none", PromiseBoundaryTests::kind);
    }

    private static void promisesOfElements() {
        sentence("6: with v added behind, HEAP, SET (it may be there)", PromiseBoundaryTests::add);
        sentence("7: with v before the others", PromiseBoundaryTests::push);
        sentence("8: ELEMENT i, from 0; there is none: NoSuchElementException", PromiseBoundaryTests::set);
        sentence("9: ELEMENT i, from 0; there is none: NoSuchElementException", PromiseBoundaryTests::at);
        sentence("9: STREAM (as far is worked out)", PromiseBoundaryTests::atOfStream);
        sentence("10: without n; it has fewer: NoSuchElementException", PromiseBoundaryTests::drop);
        sentence("11: there is none: NoSuchElementException", PromiseBoundaryTests::pop);
        sentence("11: HEAP: without a least one", PromiseBoundaryTests::popOfHeap);
        sentence("11: STREAM: the rest (worked out)", PromiseBoundaryTests::popOfStream);
        sentence("12: there is none: NoSuchElementException", PromiseBoundaryTests::front);
    }

    private static void promisesOfKeys() {
        sentence("13: with v for the key, in place of what it had", PromiseBoundaryTests::put);
        sentence("14: what the key has; SET: 1; else NoSuchElementException", PromiseBoundaryTests::find);
        sentence("15: without the key (it need not be there)", PromiseBoundaryTests::out);
        sentence("16: there is none: NoSuchElementException", PromiseBoundaryTests::near);
        sentence("17: from low on, below high alone (none, if low is not below high)", PromiseBoundaryTests::range);
    }

    private static void promisesOfTwo() {
        sentence("18: a, then b; HEAP: both", PromiseBoundaryTests::join);
        sentence("18: MAP, TREE: both, those of b win; SET: both", PromiseBoundaryTests::joinOfKeys);
        sentence("18: MOVES (STREAM, HEAP: none). Answers the size (STREAM 0)", PromiseBoundaryTests::joinAnswers);
        sentence("18: STREAM: a, then b", PromiseBoundaryTests::joinOfStreams);
        sentence("19: the keys that are in both, or (less) in a alone", PromiseBoundaryTests::meet);
        sentence("20: the SHAPE", PromiseBoundaryTests::shape);
        sentence("21: whether they are the same", PromiseBoundaryTests::same);
        sentence("21: (HEAPS: each ELEMENT as often)", PromiseBoundaryTests::sameHeaps);
    }

    private static void promisesOfFunctions() {
        sentence("22: SEQUENCE: f of each", PromiseBoundaryTests::map);
        sentence("22: STREAM: the first at once, each other when it is needed", PromiseBoundaryTests::mapOfStream);
        sentence("23: those that pass a TEST", PromiseBoundaryTests::filter);
        sentence("23: the first that passes is sought at once", PromiseBoundaryTests::filterOfStream);
        sentence("23: at most 1000 ELEMENTS are looked at for one", PromiseBoundaryTests::thousandLookedAt);
        sentence("23: the STREAM ends there, and the next is not worked out", PromiseBoundaryTests::endsThere);
    }

    private static void promisesOfStreams() {
        sentence("24: v, f of v, f of that, .. (v needs no call)", PromiseBoundaryTests::iterate);
        sentence("25: its first n (of n 0 it is empty)", PromiseBoundaryTests::take);
        sentence("25: (the n-th one's rest is empty, and needs nothing)", PromiseBoundaryTests::restNeedsNothing);
        sentence("26: its first n, 0 .. 1000 (fewer if it ends)", PromiseBoundaryTests::list);
        sentence("26: all are worked out, but not the CELL behind the last", PromiseBoundaryTests::notBehindTheLast);
        sentence("26: MOVES: n, also if it ends before", PromiseBoundaryTests::movesOfList);
        sentence("27: as a STREAM; values or keys in ORDER, as a SEQUENCE", PromiseBoundaryTests::turn);
    }

    private static void promisesOfBuilders() {
        sentence("28: SEQUENCE, MAP or SET: the BUILDER is OPEN, with what from has", PromiseBoundaryTests::open);
        sentence("29: of a SEQUENCE", PromiseBoundaryTests::buildOfSequence);
        sentence("29: MAP, SET; with 1: UnsupportedOperationException", PromiseBoundaryTests::buildOfKeys);
        sentence("30: there is none: NoSuchElementException", PromiseBoundaryTests::look);
        sentence("31: what the BUILDER has; it is not OPEN any more", PromiseBoundaryTests::freeze);
        sentence("32: 0 CALLS, 1 MOVES", PromiseBoundaryTests::countOfCallsAndMoves);
        sentence("32: 2 BUILDERS that are OPEN, 3 COLLECTIONS that are not in order", PromiseBoundaryTests::countOfOthers);
    }

    // ---------------------------------------------------------------- 1 .. 5

    private static void grains() {
        int[] grains = {-4, -3, -2, -1, 0, 1, 2, 3, 4, 5, Integer.MIN_VALUE, Integer.MAX_VALUE, Integer.MAX_VALUE - 1};
        int[] due = {2, 0, 1, 2, 0, 1, 2, 0, 1, 2, 1, 1, 0};
        for (int i = 0; i < grains.length; i++) {
            // In GRAIN 0 both pairs part; in 1 only the one that differs in the lowest bits; in 2 none.
            int low = due[i] == 2 ? below(7, 9) : node(3, 0);
            int high = due[i] == 0 ? below(1, node(1 | 1 << 8, 0)) : below(7, 9);
            scene(grains[i]).holding(0, SET, 0, 1).due(low, t -> t.shape(0));
            scene(grains[i]).holding(0, MAP, 0, 256).due(high, t -> t.shape(0));
        }
    }

    private static void newObject() {
        for (int grain : new int[] {0, 1, 2, -1, Integer.MIN_VALUE}) {
            for (int slot = 0; slot < 24; slot++) {
                int s = slot;
                scene(grain).due(-1, t -> t.kind(s));
            }
            for (int what = 0; what < 4; what++) {
                int w = what;
                scene(grain).due(0, t -> t.count(w));
            }
        }
    }

    private static void make() {
        for (int kind = SEQUENCE; kind <= STREAM; kind++) {
            int k = kind;
            for (int slot : new int[] {0, 23}) {
                // Also where another one was held.
                for (Scene before : new Scene[] {scene(), scene().holding(slot, SET, 1, 2), scene().numbers(slot)}) {
                    Scene made = before.with(t -> t.make(slot, k));
                    made.due(k, t -> t.kind(slot));
                    made.holds(slot);
                    if (k != STREAM) {
                        made.due(0, t -> t.size(slot));
                    }
                }
            }
        }
        allKinds().refuses(ARGUMENT, t -> t.make(0, 7));
        allKinds().refuses(ARGUMENT, t -> t.make(0, -1));
        allKinds().refuses(ARGUMENT, t -> t.make(24, 0));
        allKinds().refuses(ARGUMENT, t -> t.make(-1, 0));
    }

    private static void copy() {
        for (int kind = SEQUENCE; kind <= STREAM; kind++) {
            int k = kind;
            for (Scene scene : new Scene[] {allKinds(), allEmpty()}) {
                scene.with(t -> t.copy(23, k)).alike(23, scene, k);
                scene.with(t -> t.copy(k, k)).alike(k, scene, k);
                scene.with(t -> t.copy((k + 1) % 7, k)).alike((k + 1) % 7, scene, k);
                scene.with(t -> t.copy(23, k)).alike(k, scene, k);
            }
        }
        allKinds().refuses(STATE, t -> t.copy(0, 7));
        allKinds().refuses(STATE, t -> t.copy(7, 7));
        // The CELLS of a STREAM are the same ones.
        Scene stream = scene().numbers(0).with(t -> t.copy(1, 0), t -> t.at(1, 5), t -> t.at(0, 5));
        stream.dueCounts(5, 5);
    }

    private static void size() {
        for (int kind = SEQUENCE; kind < STREAM; kind++) {
            int k = kind;
            allEmpty().due(0, t -> t.size(k));
            allKinds().due(3, t -> t.size(k));
            scene().holding(23, k, 9).due(1, t -> t.size(23));
        }
        allEmpty().refuses(STATE, t -> t.size(STREAM));
        allKinds().refuses(STATE, t -> t.size(STREAM));
        scene().numbers(0).refuses(STATE, t -> t.size(0));
        allKinds().refuses(STATE, t -> t.size(7));
        scene().thousand(0).due(1000, t -> t.size(0));
        scene().grown(0, QUEUE, 1000).due(1000, t -> t.size(0));
        scene().grown(0, HEAP, 1000).due(1000, t -> t.size(0));
        // As often as it was added, or once.
        scene().holding(0, HEAP, 5, 5, 5).due(3, t -> t.size(0));
        scene().holding(0, QUEUE, 5, 5, 5).due(3, t -> t.size(0));
        scene().holding(0, SEQUENCE, 5, 5, 5).due(3, t -> t.size(0));
        scene().holding(0, SET, 5, 5, 5).due(1, t -> t.size(0));
        scene().holding(0, TREE, 5, 5, 5).due(1, t -> t.size(0));
        scene().holding(0, MAP, 5, 5, 5).due(1, t -> t.size(0));
    }

    private static void kind() {
        for (int slot = 0; slot < 24; slot++) {
            int s = slot;
            allKinds().due(s < 7 ? s : -1, t -> t.kind(s));
        }
        scene().refuses(ARGUMENT, t -> t.kind(24));
        scene().refuses(ARGUMENT, t -> t.kind(-1));
        // A refused call leaves the slot without one.
        scene().tried(t -> t.make(5, 7)).due(-1, t -> t.kind(5));
        scene().tried(t -> t.add(5, 4, 1)).due(-1, t -> t.kind(5));
        scene().numbers(0).tried(t -> t.filter(5, 0, 3, 0)).due(-1, t -> t.kind(5));
        scene().holding(0, SEQUENCE, 1).with(t -> t.turn(5, 0)).due(STREAM, t -> t.kind(5));
        scene().holding(0, TREE, 1).with(t -> t.turn(5, 0)).due(SEQUENCE, t -> t.kind(5));
        scene().numbers(0).with(t -> t.list(5, 0, 0)).due(SEQUENCE, t -> t.kind(5));
    }

    // ---------------------------------------------------------------- 6 .. 12

    private static void add() {
        allEmpty().due(1, t -> t.add(10, SEQUENCE, 5));
        allEmpty().due(1, t -> t.add(10, QUEUE, 5));
        allEmpty().due(1, t -> t.add(10, HEAP, 5));
        allEmpty().due(1, t -> t.add(10, SET, 5));
        allKinds().due(4, t -> t.add(10, SEQUENCE, 5));
        allKinds().due(4, t -> t.add(10, QUEUE, 5));
        allKinds().due(4, t -> t.add(10, HEAP, 5));
        allKinds().with(t -> t.add(10, SEQUENCE, 5)).holds(10, 5, 6, 7, 5);
        allKinds().with(t -> t.add(10, QUEUE, 5)).holds(10, 5, 6, 7, 5);
        allKinds().with(t -> t.add(10, HEAP, 6)).holds(10, 5, 6, 6, 7);
        allKinds().with(t -> t.add(10, HEAP, 4)).holds(10, 4, 5, 6, 7);
        // It may be there.
        allKinds().due(3, t -> t.add(10, SET, 5));
        allKinds().with(t -> t.add(10, SET, 5)).holds(10, 5, 6, 7);
        allKinds().due(4, t -> t.add(10, SET, 8));
        Scene full = scene().thousand(0);
        full.refuses(FULL, t -> t.add(0, 0, 0));
        full.with(t -> t.pop(1, 0)).due(1000, t -> t.add(1, 1, 0));
        full.with(t -> t.pop(1, 0), t -> t.add(1, 1, -5)).due(-5, t -> t.at(1, 999));
    }

    private static void push() {
        allEmpty().with(t -> t.push(10, SEQUENCE, 5)).holds(10, 5);
        allEmpty().with(t -> t.push(10, STREAM, 5)).holds(10, 5);
        allKinds().with(t -> t.push(10, SEQUENCE, 9)).holds(10, 9, 5, 6, 7);
        allKinds().with(t -> t.push(10, STREAM, 9)).holds(10, 9, 5, 6, 7);
        Scene full = scene().thousand(0);
        full.refuses(FULL, t -> t.push(0, 0, 7));
        full.refuses(FULL, t -> t.push(1, 0, 7));
        full.with(t -> t.drop(1, 0, 1, false), t -> t.push(1, 1, 7)).due(998, t -> t.at(1, 999));
        // A STREAM is never FULL by its length, nor does it grow deeper, nor take MOVES.
        Scene stream = full.with(t -> t.turn(0, 0), t -> t.push(0, 0, 7));
        stream.due(7, t -> t.front(0));
        stream.due(999, t -> t.at(0, 1000));
        Scene deep = scene().numbers(0).times(100, t -> t.take(0, 0, 5)).leaving(0);
        deep.goesWell(t -> t.push(0, 0, 7));
        deep.with(t -> t.push(0, 0, 7)).due(7, t -> t.pop(1, 0));
        scene().numbers(0).times(400, t -> t.push(0, 0, 7)).due(0, t -> t.at(0, 400));
    }

    private static void set() {
        Scene scene = allKinds();
        scene.due(5, t -> t.set(10, SEQUENCE, 0, 9));
        scene.due(7, t -> t.set(10, SEQUENCE, 2, 9));
        scene.with(t -> t.set(10, SEQUENCE, 0, 9)).holds(10, 9, 6, 7);
        scene.with(t -> t.set(10, SEQUENCE, 1, 9)).holds(10, 5, 9, 7);
        scene.with(t -> t.set(10, SEQUENCE, 2, 9)).holds(10, 5, 6, 9);
        scene.with(t -> t.set(10, SEQUENCE, 1, 6)).holds(10, 5, 6, 7);
        // No range is told for i, so what is not there is just not there.
        for (int i : new int[] {-1, 3, Integer.MIN_VALUE, Integer.MAX_VALUE}) {
            scene.refuses(NONE, t -> t.set(10, SEQUENCE, i, 9));
            scene.refuses(NONE, t -> t.set(SEQUENCE, SEQUENCE, i, 9));
        }
        allEmpty().refuses(NONE, t -> t.set(10, SEQUENCE, 0, 9));
        Scene full = scene().thousand(0);
        full.due(0, t -> t.set(1, 0, 0, -1));
        full.due(999, t -> t.set(1, 0, 999, -1));
        full.refuses(NONE, t -> t.set(1, 0, 1000, -1));
        full.with(t -> t.set(1, 0, 999, -1)).due(-1, t -> t.at(1, 999));
        full.with(t -> t.set(1, 0, 999, -1)).due(999, t -> t.at(0, 999));
    }

    private static void at() {
        for (int kind : new int[] {SEQUENCE, MAP, SET, TREE}) {
            allKinds().due(5, t -> t.at(kind, 0));
            allKinds().due(7, t -> t.at(kind, 2));
            for (int i : new int[] {3, 4, Integer.MAX_VALUE}) {
                allKinds().refuses(NONE, t -> t.at(kind, i));
            }
            for (int i : new int[] {-1, Integer.MIN_VALUE}) {
                allKinds().refuses(ARGUMENT, t -> t.at(kind, i));
            }
            allEmpty().refuses(NONE, t -> t.at(kind, 0));
            allEmpty().refuses(ARGUMENT, t -> t.at(kind, -1));
            allKinds().refuses(ARGUMENT, t -> t.at(20, -1));
        }
        scene().thousand(0).due(999, t -> t.at(0, 999));
        scene().thousand(0).refuses(NONE, t -> t.at(0, 1000));
        // In NODES below: the last place is in the last of them.
        Scene deep = scene().holding(0, MAP, 1, 33, 2, 34, 66);
        deep.due(66, t -> t.at(0, 4));
        deep.refuses(NONE, t -> t.at(0, 5));
        Scene alike = scene(2).holding(0, SET, 3, 2, 1);
        alike.holds(0, 1, 2, 3);
        alike.refuses(NONE, t -> t.at(0, 3));
    }

    private static void atOfStream() {
        Scene stream = scene().holding(0, STREAM, 5, 6, 7);
        stream.due(5, t -> t.at(0, 0));
        stream.due(7, t -> t.at(0, 2));
        stream.with(t -> t.at(0, 0)).dueCounts(0, 0);
        stream.with(t -> t.at(0, 2)).dueCounts(0, 2);
        stream.refusesCounting(0, 3, NONE, t -> t.at(0, 3));
        stream.refusesCounting(0, 3, NONE, t -> t.at(0, Integer.MAX_VALUE));
        stream.refuses(ARGUMENT, t -> t.at(0, -1));
        scene().holding(0, STREAM).refuses(NONE, t -> t.at(0, 0));
        scene().holding(0, STREAM).refuses(ARGUMENT, t -> t.at(0, -1));
        Scene numbers = scene().numbers(0);
        numbers.due(20000, t -> t.at(0, 20000));
        numbers.refusesCounting(20000, 20000, FULL, t -> t.at(0, 20001));
        numbers.refusesCounting(20000, 20000, FULL, t -> t.at(0, Integer.MAX_VALUE));
        numbers.tried(t -> t.at(0, 20001)).due(20000, t -> t.at(0, 20000));
        scene().with(t -> t.iterate(0, 1, 5, 0)).refusesCounting(2, 2, DIVISION, t -> t.at(0, 2));
    }

    private static void drop() {
        for (boolean front : new boolean[] {true, false}) {
            Scene scene = allKinds();
            scene.due(3, t -> t.drop(10, SEQUENCE, 0, front));
            scene.due(2, t -> t.drop(10, SEQUENCE, 1, front));
            scene.due(0, t -> t.drop(10, SEQUENCE, 3, front));
            scene.with(t -> t.drop(10, SEQUENCE, 0, front)).holds(10, 5, 6, 7);
            scene.with(t -> t.drop(10, SEQUENCE, 3, front)).holds(10);
            scene.with(t -> t.drop(10, SEQUENCE, 3, front)).due(1, t -> t.add(10, 10, 5));
            for (int n : new int[] {4, 5, Integer.MAX_VALUE}) {
                scene.refuses(NONE, t -> t.drop(10, SEQUENCE, n, front));
                scene.refuses(NONE, t -> t.drop(SEQUENCE, SEQUENCE, n, front));
            }
            scene.refuses(ARGUMENT, t -> t.drop(10, SEQUENCE, -1, front));
            scene.refuses(ARGUMENT, t -> t.drop(10, SEQUENCE, Integer.MIN_VALUE, front));
            allEmpty().due(0, t -> t.drop(10, SEQUENCE, 0, front));
            allEmpty().refuses(NONE, t -> t.drop(10, SEQUENCE, 1, front));
            allEmpty().refuses(ARGUMENT, t -> t.drop(10, SEQUENCE, -1, front));
            Scene full = scene().thousand(0);
            full.due(0, t -> t.drop(1, 0, 1000, front));
            full.due(1, t -> t.drop(1, 0, 999, front));
            full.refuses(NONE, t -> t.drop(1, 0, 1001, front));
            full.with(t -> t.drop(1, 0, 999, front)).holds(1, front ? 999 : 0);
        }
        allKinds().with(t -> t.drop(10, SEQUENCE, 1, true)).holds(10, 6, 7);
        allKinds().with(t -> t.drop(10, SEQUENCE, 1, false)).holds(10, 5, 6);
    }

    private static void pop() {
        allEmpty().refuses(NONE, t -> t.pop(10, QUEUE));
        allEmpty().refuses(NONE, t -> t.pop(10, SEQUENCE));
        allEmpty().refuses(NONE, t -> t.pop(10, HEAP));
        allEmpty().refuses(NONE, t -> t.pop(10, STREAM));
        allEmpty().refuses(NONE, t -> t.pop(QUEUE, QUEUE));
        allKinds().due(5, t -> t.pop(10, QUEUE));
        allKinds().due(7, t -> t.pop(10, SEQUENCE));
        allKinds().with(t -> t.pop(10, QUEUE)).holds(10, 6, 7);
        allKinds().with(t -> t.pop(10, SEQUENCE)).holds(10, 5, 6);
        for (int kind : new int[] {QUEUE, SEQUENCE, HEAP, STREAM}) {
            Scene one = scene().holding(0, kind, 9);
            one.due(9, t -> t.pop(0, 0));
            one.with(t -> t.pop(0, 0)).holds(0);
            one.with(t -> t.pop(0, 0)).due(kind, t -> t.kind(0));
            one.with(t -> t.pop(0, 0)).refuses(NONE, t -> t.pop(0, 0));
            one.with(t -> t.pop(1, 0)).holds(0, 9);
        }
        Scene queue = scene().grown(0, QUEUE, 1000).times(400, t -> t.pop(0, 0));
        queue.due(600, t -> t.size(0));
        scene().thousand(0).due(999, t -> t.pop(0, 0));
    }

    private static void popOfHeap() {
        scene().holding(0, HEAP, 7, 5, 6).holds(0, 5, 6, 7);
        scene().holding(0, HEAP, 5, 5, 4, 5).holds(0, 4, 5, 5, 5);
        scene().holding(0, HEAP, MOST, LEAST, 0).holds(0, LEAST, 0, MOST);
        scene().holding(0, HEAP, 1, 2, 3, 4, 5, 6, 7, 8).holds(0, 1, 2, 3, 4, 5, 6, 7, 8);
        scene().holding(0, HEAP, 8, 7, 6, 5, 4, 3, 2, 1).holds(0, 1, 2, 3, 4, 5, 6, 7, 8);
        Scene twice = scene().holding(0, HEAP, 3, 1).with(t -> t.pop(1, 0), t -> t.pop(2, 0));
        twice.holds(1, 3);
        twice.holds(2, 3);
        twice.holds(0, 1, 3);
    }

    private static void popOfStream() {
        Scene numbers = scene().numbers(0);
        numbers.due(0, t -> t.pop(1, 0));
        numbers.with(t -> t.pop(1, 0)).dueCounts(1, 1);
        numbers.with(t -> t.pop(1, 0)).due(1, t -> t.front(1));
        numbers.with(t -> t.pop(1, 0)).due(0, t -> t.front(0));
        numbers.leaving(0).refuses(FULL, t -> t.pop(1, 0));
        numbers.leaving(1).due(0, t -> t.pop(1, 0));
        numbers.with(t -> t.at(0, 1)).leaving(0).due(0, t -> t.pop(1, 0));
        // The last one's rest is worked out, and is empty.
        Scene last = scene().holding(0, STREAM, 5);
        last.with(t -> t.pop(0, 0)).dueCounts(0, 1);
        last.leaving(0).refuses(FULL, t -> t.pop(0, 0));
        scene().with(t -> t.iterate(0, 8, 4, 0)).refusesCounting(1, 1, DIVISION, t -> t.pop(0, 0));
        scene().holding(0, STREAM).leaving(0).refuses(NONE, t -> t.pop(0, 0));
    }

    private static void front() {
        allEmpty().refuses(NONE, t -> t.front(QUEUE));
        allEmpty().refuses(NONE, t -> t.front(HEAP));
        allEmpty().refuses(NONE, t -> t.front(STREAM));
        scene().holding(0, QUEUE, 9, 5).due(9, t -> t.front(0));
        scene().holding(0, HEAP, 9, 5).due(5, t -> t.front(0));
        scene().holding(0, STREAM, 9, 5).due(9, t -> t.front(0));
        scene().holding(0, HEAP, 9, LEAST, MOST).due(LEAST, t -> t.front(0));
        // It changes nothing, and needs nothing.
        Scene stream = scene().with(t -> t.iterate(0, 8, 4, 0)).leaving(0);
        stream.due(8, t -> t.front(0));
        stream.with(t -> t.front(0)).due(20000, t -> t.count(MOVES));
        scene().holding(0, QUEUE, 9, 5).with(t -> t.front(0)).holds(0, 9, 5);
        scene().holding(0, HEAP, 9, 5).with(t -> t.front(0)).holds(0, 5, 9);
    }

    // ---------------------------------------------------------------- 13 .. 17

    private static void put() {
        for (int kind : new int[] {MAP, TREE}) {
            Scene empty = scene().with(t -> t.make(0, kind));
            empty.due(1, t -> t.put(0, 0, 5, 9));
            Scene one = empty.with(t -> t.put(0, 0, 5, 9));
            one.due(1, t -> t.put(0, 0, 5, 8));
            one.due(1, t -> t.put(0, 0, 5, 9));
            one.with(t -> t.put(0, 0, 5, 8)).due(8, t -> t.find(0, 5));
            one.with(t -> t.put(1, 0, 5, 8)).due(9, t -> t.find(0, 5));
            one.due(2, t -> t.put(0, 0, 1L << 32 | 5, 8));
            one.due(2, t -> t.put(0, 0, 5 + 256, 8));
            // What was taken out can be there again.
            one.with(t -> t.out(0, 0, 5)).due(1, t -> t.put(0, 0, 5, 7));
            one.with(t -> t.out(0, 0, 5), t -> t.put(0, 0, 5, 7)).due(7, t -> t.find(0, 5));
        }
        Scene rising = scene().with(t -> t.make(0, TREE)).each(400, (t, i) -> t.put(0, 0, i, -i));
        rising.due(0, t -> t.at(0, 0));
        rising.due(399, t -> t.at(0, 399));
        rising.due(-200, t -> t.find(0, 200));
        Scene falling = scene().with(t -> t.make(0, TREE)).each(400, (t, i) -> t.put(0, 0, -i, i));
        falling.due(-399, t -> t.at(0, 0));
        falling.due(0, t -> t.at(0, 399));
    }

    private static void find() {
        for (int kind : new int[] {MAP, TREE, SET}) {
            Scene scene = scene(1).holding(0, kind, 5, 5 + 256);
            scene.due(kind == SET ? 1 : 50, t -> t.find(0, 5));
            scene.due(kind == SET ? 1 : 2610, t -> t.find(0, 5 + 256));
            // Keys of the same HASH, and beside it.
            for (long key : new long[] {5 + 512, 4, 6, -5, 1L << 32 | 5, LEAST | 5, 0}) {
                scene.refuses(NONE, t -> t.find(0, key));
            }
            scene(1).holding(0, kind).refuses(NONE, t -> t.find(0, 0));
            scene.with(t -> t.out(0, 0, 5)).refuses(NONE, t -> t.find(0, 5));
            scene.with(t -> t.out(0, 0, 5)).due(kind == SET ? 1 : 2610, t -> t.find(0, 5 + 256));
        }
        // What a key has may be any long, 0 too.
        scene().holding(0, MAP, 0).due(0, t -> t.find(0, 0));
        scene().holding(0, TREE, 0).due(0, t -> t.find(0, 0));
    }

    private static void out() {
        for (int kind : new int[] {MAP, TREE, SET}) {
            Scene scene = scene().holding(0, kind, 5, 37, 6);
            scene.due(2, t -> t.out(1, 0, 37));
            scene.due(3, t -> t.out(1, 0, 69));
            scene.due(3, t -> t.out(1, 0, 7));
            scene.with(t -> t.out(1, 0, 69)).alike(1, scene, 0);
            scene.with(t -> t.out(0, 0, 37), t -> t.out(0, 0, 5)).holds(0, 6);
            Scene empty = scene().holding(0, kind);
            empty.due(0, t -> t.out(1, 0, 5));
            empty.with(t -> t.out(1, 0, 5)).due(kind, t -> t.kind(1));
            Scene last = scene().holding(0, kind, 5).with(t -> t.out(0, 0, 5));
            last.due(0, t -> t.size(0));
            last.holds(0);
            last.due(kind, t -> t.kind(0));
            last.due(0, t -> t.out(0, 0, 5));
        }
        // Sixteen of one HASH, taken out one by one, from either end.
        for (int step : new int[] {1, 15}) {
            Scene alike = scene(2).with(t -> t.make(0, SET)).each(16, (t, i) -> t.add(0, 0, i));
            for (int i = 0; i < 15; i++) {
                long key = i * step % 16;
                alike = alike.with(t -> t.out(0, 0, key));
                int left = 15 - i;
                alike.due(left == 1 ? node(1, 0) : below(7, 7 + left), t -> t.shape(0));
            }
        }
        Scene tree = scene().with(t -> t.make(0, TREE)).each(200, (t, i) -> t.put(0, 0, i, i));
        tree.each(200, (t, i) -> t.out(0, 0, 77 * i % 200)).due(0, t -> t.size(0));
        tree.each(199, (t, i) -> t.out(0, 0, 77 * i % 200)).due(77 * 199 % 200, t -> t.at(0, 0));
    }

    private static void near() {
        Scene scene = scene().holding(0, TREE, 10, 20, 30);
        nearest(scene, 9, NONE_THERE, NONE_THERE, 10, 10);
        nearest(scene, 10, NONE_THERE, 10, 10, 20);
        nearest(scene, 11, 10, 10, 20, 20);
        nearest(scene, 19, 10, 10, 20, 20);
        nearest(scene, 20, 10, 20, 20, 30);
        nearest(scene, 29, 20, 20, 30, 30);
        nearest(scene, 30, 20, 30, 30, NONE_THERE);
        nearest(scene, 31, 30, 30, NONE_THERE, NONE_THERE);
        nearest(scene, LEAST, NONE_THERE, NONE_THERE, 10, 10);
        nearest(scene, MOST, 30, 30, NONE_THERE, NONE_THERE);
        Scene edges = scene().holding(0, TREE, LEAST, MOST);
        nearest(edges, LEAST, NONE_THERE, LEAST, LEAST, MOST);
        nearest(edges, 0, LEAST, LEAST, MOST, MOST);
        nearest(edges, MOST, LEAST, MOST, MOST, NONE_THERE);
        for (long key : new long[] {LEAST, 0, MOST}) {
            nearest(scene().holding(0, TREE), key, NONE_THERE, NONE_THERE, NONE_THERE, NONE_THERE);
        }
        scene.refuses(ARGUMENT, t -> t.near(0, 20, -1));
        scene.refuses(ARGUMENT, t -> t.near(0, 20, 4));
    }

    private static final long NONE_THERE = -99;

    private static void nearest(Scene scene, long key, long... due) {
        for (int way = 0; way < 4; way++) {
            int w = way;
            if (due[w] == NONE_THERE) {
                scene.refuses(NONE, t -> t.near(0, key, w));
            } else {
                scene.due(due[w], t -> t.near(0, key, w));
            }
        }
    }

    private static void ranged(Scene scene, long low, long high, long... due) {
        Scene after = scene.with(t -> t.range(1, 0, low, high));
        scene.due(due.length, t -> t.range(1, 0, low, high));
        after.holds(1, due);
        after.due(TREE, t -> t.kind(1));
        after.due(scene.ask(t -> t.size(0)), t -> t.count(MOVES));
        for (long key : due) {
            after.due(10 * key, t -> t.find(1, key));
        }
    }

    private static void range() {
        Scene scene = scene().holding(0, TREE, 10, 20, 30);
        ranged(scene, 10, 30, 10, 20);
        ranged(scene, 10, 31, 10, 20, 30);
        ranged(scene, 11, 31, 20, 30);
        ranged(scene, 20, 21, 20);
        ranged(scene, 20, 20);
        ranged(scene, 21, 20);
        ranged(scene, 30, 10);
        ranged(scene, 11, 20);
        ranged(scene, 31, 99);
        ranged(scene, -5, 10);
        ranged(scene, LEAST, MOST, 10, 20, 30);
        ranged(scene, MOST, LEAST);
        ranged(scene, LEAST, LEAST);
        Scene edges = scene().holding(0, TREE, LEAST, 0, MOST);
        ranged(edges, LEAST, MOST, LEAST, 0);
        ranged(edges, LEAST, LEAST + 1, LEAST);
        ranged(edges, LEAST + 1, MOST, 0);
        ranged(edges, MOST, MOST);
        ranged(scene().holding(0, TREE), LEAST, MOST);
        scene.leaving(2).refuses(FULL, t -> t.range(1, 0, 20, 20));
        scene.leaving(3).due(0, t -> t.range(1, 0, 20, 20));
        scene.leaving(2).refuses(FULL, t -> t.range(0, 0, 10, 31));
        Scene large = scene().with(t -> t.make(0, TREE)).each(400, (t, i) -> t.put(0, 0, i, i));
        large.due(398, t -> t.range(1, 0, 1, 399));
        large.due(1, t -> t.range(1, 0, 399, 400));
        large.with(t -> t.range(1, 0, 1, 399)).due(398, t -> t.at(1, 397));
    }

    // ---------------------------------------------------------------- 18 .. 21

    private static void join() {
        for (int kind : new int[] {SEQUENCE, QUEUE}) {
            Scene scene = scene().holding(0, kind, 1, 2).holding(1, kind, 3).holding(2, kind);
            scene.with(t -> t.join(3, 0, 1)).holds(3, 1, 2, 3);
            scene.with(t -> t.join(3, 1, 0)).holds(3, 3, 1, 2);
            scene.with(t -> t.join(3, 0, 0)).holds(3, 1, 2, 1, 2);
            scene.with(t -> t.join(3, 0, 2)).holds(3, 1, 2);
            scene.with(t -> t.join(3, 2, 0)).holds(3, 1, 2);
            scene.with(t -> t.join(3, 2, 2)).holds(3);
        }
        Scene heaps = scene().holding(0, HEAP, 2, 1).holding(1, HEAP, 2, 0).holding(2, HEAP);
        heaps.with(t -> t.join(3, 0, 1)).holds(3, 0, 1, 2, 2);
        heaps.with(t -> t.join(3, 0, 0)).holds(3, 1, 1, 2, 2);
        heaps.with(t -> t.join(3, 0, 2)).holds(3, 1, 2);
        heaps.with(t -> t.join(3, 2, 0)).holds(3, 1, 2);
        heaps.with(t -> t.join(3, 2, 2)).holds(3);
        heaps.with(t -> t.join(3, 0, 1)).holds(1, 0, 2);
        Scene full = scene().thousand(0).with(t -> t.drop(1, 0, 1, false), t -> t.drop(2, 0, 999, false));
        full.due(1000, t -> t.join(3, 1, 2));
        full.due(1000, t -> t.join(3, 2, 1));
        full.with(t -> t.join(3, 2, 1)).due(998, t -> t.at(3, 999));
        full.refuses(FULL, t -> t.join(3, 0, 2));
        full.refuses(FULL, t -> t.join(3, 2, 0));
        full.refuses(FULL, t -> t.join(3, 0, 0));
    }

    private static void joinOfKeys() {
        for (int kind : new int[] {MAP, TREE}) {
            Scene scene = scene().with(t -> t.make(0, kind), t -> t.put(0, 0, 5, 1), t -> t.put(0, 0, 37, 2),
                    t -> t.make(1, kind), t -> t.put(1, 1, 37, 3), t -> t.put(1, 1, 69, 4), t -> t.make(2, kind));
            Scene joined = scene.with(t -> t.join(3, 0, 1), t -> t.join(4, 1, 0));
            joined.holds(3, 5, 37, 69);
            joined.due(3, t -> t.find(3, 37));
            joined.due(2, t -> t.find(4, 37));
            joined.due(1, t -> t.find(4, 5));
            joined.due(4, t -> t.find(4, 69));
            joined.due(2, t -> t.find(0, 37));
            joined.due(3, t -> t.find(1, 37));
            scene.with(t -> t.join(3, 0, 2)).alike(3, scene, 0);
            scene.with(t -> t.join(3, 2, 0)).alike(3, scene, 0);
            scene.with(t -> t.join(3, 0, 0)).alike(3, scene, 0);
            scene.with(t -> t.join(3, 2, 2)).holds(3);
            // The empty one that was joined gives no way into the other.
            scene.with(t -> t.join(3, 2, 0), t -> t.put(3, 3, 5, 9)).alike(0, scene, 0);
        }
        Scene sets = scene().holding(0, SET, 5, 37).holding(1, SET, 37, 69).holding(2, SET);
        sets.with(t -> t.join(3, 0, 1)).holds(3, 5, 37, 69);
        sets.due(3, t -> t.join(3, 0, 1));
        sets.due(2, t -> t.join(3, 0, 0));
        sets.due(2, t -> t.join(3, 0, 2));
        sets.due(2, t -> t.join(3, 2, 0));
        sets.due(0, t -> t.join(3, 2, 2));
        sets.with(t -> t.join(3, 0, 1), t -> t.out(3, 3, 5)).alike(0, sets, 0);
    }

    private static void joinAnswers() {
        for (int kind = SEQUENCE; kind <= STREAM; kind++) {
            int k = kind;
            boolean none = k == STREAM || k == HEAP;
            boolean keys = k == MAP || k == SET || k == TREE;
            Scene scene = scene().holding(0, k, 5, 6, 7).holding(1, k, 7, 8);
            scene.due(k == STREAM ? 0 : keys ? 4 : 5, t -> t.join(2, 0, 1));
            scene.with(t -> t.join(2, 0, 1)).due(none ? 0 : 5, t -> t.count(MOVES));
            if (none) {
                scene.leaving(0).goesWell(t -> t.join(2, 0, 1));
            } else {
                scene.leaving(4).refuses(FULL, t -> t.join(2, 0, 1));
                scene.leaving(5).goesWell(t -> t.join(2, 0, 1));
            }
        }
    }

    private static void joinOfStreams() {
        Scene scene = scene().holding(0, STREAM, 1, 2).holding(1, STREAM, 3).holding(2, STREAM);
        scene.with(t -> t.join(3, 0, 1)).holds(3, 1, 2, 3);
        scene.with(t -> t.join(3, 1, 0)).holds(3, 3, 1, 2);
        scene.with(t -> t.join(3, 0, 0)).holds(3, 1, 2, 1, 2);
        scene.with(t -> t.join(3, 0, 2)).holds(3, 1, 2);
        scene.with(t -> t.join(3, 2, 0)).holds(3, 1, 2);
        scene.with(t -> t.join(3, 2, 2)).holds(3);
        // A CELL of the join and one of the first for each of the first's, the end too; then the second's own.
        Scene joined = scene.with(t -> t.join(3, 0, 1));
        joined.with(t -> t.at(3, 1)).dueCounts(0, 2);
        joined.with(t -> t.at(3, 2)).dueCounts(0, 4);
        joined.refusesCounting(0, 5, NONE, t -> t.at(3, 3));
        // What is behind the first is the second itself, not a copy.
        joined.tried(t -> t.at(3, 3)).refuses(NONE, t -> t.at(1, 1));
        // With an empty first it is the second from the start.
        scene.with(t -> t.join(3, 2, 0)).refusesCounting(0, 2, NONE, t -> t.at(3, 2));
        scene.with(t -> t.join(3, 0, 2)).refusesCounting(0, 4, NONE, t -> t.at(3, 2));
        Scene endless = scene().numbers(0).holding(1, STREAM, 9).with(t -> t.join(2, 1, 0));
        endless.due(3, t -> t.at(2, 4));
    }

    private static void meet() {
        Scene scene = scene().holding(0, SET, 5, 37, 1L << 32 | 5).holding(1, SET, 37, 69, 1L << 32 | 5).holding(2, SET);
        scene.due(2, t -> t.meet(3, 0, 1, false));
        scene.due(1, t -> t.meet(3, 0, 1, true));
        scene.with(t -> t.meet(3, 0, 1, true)).holds(3, 5);
        scene.with(t -> t.meet(3, 1, 0, true)).holds(3, 69);
        scene.with(t -> t.meet(3, 0, 1, false)).due(1, t -> t.find(3, 37));
        scene.with(t -> t.meet(3, 0, 1, false)).due(1, t -> t.find(3, 1L << 32 | 5));
        scene.with(t -> t.meet(3, 0, 0, false)).alike(3, scene, 0);
        scene.with(t -> t.meet(3, 0, 0, true)).alike(3, scene, 2);
        scene.with(t -> t.meet(3, 0, 2, false)).alike(3, scene, 2);
        scene.with(t -> t.meet(3, 0, 2, true)).alike(3, scene, 0);
        scene.with(t -> t.meet(3, 2, 0, false)).alike(3, scene, 2);
        scene.with(t -> t.meet(3, 2, 0, true)).alike(3, scene, 2);
        scene.with(t -> t.meet(3, 0, 0, true)).due(17 * 961, t -> t.shape(3));
        scene.with(t -> t.meet(3, 0, 1, false)).alike(0, scene, 0);
        // What is left stands where it would, had the others never been there.
        scene.with(t -> t.meet(3, 0, 1, true)).due(node(1 << 5, 0), t -> t.shape(3));
        // MOVES: the size of a, whatever b is.
        Scene sizes = scene().holding(0, SET, 5, 6).holding(1, SET, 6, 7, 8);
        sizes.leaving(2).goesWell(t -> t.meet(2, 0, 1, true));
        sizes.leaving(1).refuses(FULL, t -> t.meet(2, 0, 1, true));
        sizes.leaving(2).refuses(FULL, t -> t.meet(2, 1, 0, false));
        sizes.leaving(3).goesWell(t -> t.meet(2, 1, 0, false));
    }

    private static void shape() {
        for (int kind : new int[] {MAP, SET}) {
            scene().holding(0, kind).due(16337, t -> t.shape(0));
            scene().holding(0, kind, 0).due(node(1, 0), t -> t.shape(0));
            scene().holding(0, kind, 31).due(node(1 << 31, 0), t -> t.shape(0));
            scene().holding(0, kind, 0, 31).due(node(1 | 1 << 31, 0), t -> t.shape(0));
            scene().holding(0, kind, 0, 32).due(node(0, 1, node(3, 0)), t -> t.shape(0));
            scene().holding(0, kind, 31, 63).due(node(0, 1 << 31, node(3, 0)), t -> t.shape(0));
            scene(2).holding(0, kind, 0, 1).due(below(7, 9), t -> t.shape(0));
        }
        // The order in which keys came is no matter, nor are those that went.
        Scene one = scene().holding(0, SET, 1, 33, 65, 1057, 2);
        Scene other = scene().holding(0, SET, 2, 1057, 97, 65, 33, 1).with(t -> t.out(0, 0, 97));
        other.due(one.ask(t -> t.shape(0)), t -> t.shape(0));
        allKinds().refuses(STATE, t -> t.shape(TREE));
        // No value is in it.
        Scene map = scene().holding(0, MAP, 1, 33).with(t -> t.put(1, 0, 1, 7));
        map.due(map.ask(t -> t.shape(0)), t -> t.shape(1));
    }

    private static void areSame(boolean want, Scene scene) {
        scene.due(want ? 1 : 0, t -> t.same(0, 1) ? 1 : 0);
        scene.due(want ? 1 : 0, t -> t.same(1, 0) ? 1 : 0);
    }

    private static Scene two(int kind, long[] one, long... other) {
        return scene().holding(0, kind, one).holding(1, kind, other);
    }

    private static void same() {
        for (int kind = SEQUENCE; kind < STREAM; kind++) {
            areSame(true, two(kind, new long[] {}));
            areSame(false, two(kind, new long[] {}, 5));
            areSame(true, two(kind, new long[] {5}, 5));
            areSame(false, two(kind, new long[] {5}, 6));
            areSame(false, two(kind, new long[] {5, 6, 7}, 5, 6));
            areSame(false, two(kind, new long[] {5, 6, 7}, 6, 7));
            areSame(false, two(kind, new long[] {5, 6, 7}, 5, 6, 8));
            areSame(false, two(kind, new long[] {5, 6, 7}, 4, 6, 7));
            areSame(false, two(kind, new long[] {5, 37, 1L << 32 | 5}, 5, 37, 1L << 33 | 5));
            areSame(kind != SEQUENCE && kind != QUEUE, two(kind, new long[] {5, 6, 7}, 7, 6, 5));
            int k = kind;
            scene().holding(0, k, 5, 6).due(1, t -> t.same(0, 0) ? 1 : 0);
            // They take MOVES of both, also if their sizes tell at once that they differ.
            Scene unlike = two(k, new long[] {5, 6, 7}, 5);
            unlike.with(t -> t.same(0, 1)).due(4, t -> t.count(MOVES));
            unlike.leaving(3).refuses(FULL, t -> t.same(0, 1));
            unlike.leaving(4).due(0, t -> t.same(0, 1) ? 1 : 0);
        }
        for (int kind : new int[] {MAP, TREE}) {
            areSame(false, two(kind, new long[] {5, 6}, 5, 6).with(t -> t.put(1, 1, 6, 7)));
            areSame(true, two(kind, new long[] {5, 6}, 5, 6).with(t -> t.put(1, 1, 6, 7), t -> t.put(1, 1, 6, 60)));
            areSame(false, two(kind, new long[] {5, 37}, 5, 37).with(t -> t.put(1, 1, 37, 7)));
        }
        scene().holding(0, STREAM, 5).refuses(STATE, t -> t.same(0, 0));
        areSame(true, scene().thousand(0).with(t -> t.copy(1, 0)));
        areSame(false, scene().thousand(0).with(t -> t.set(1, 0, 999, 0)));
        areSame(false, scene().thousand(0).with(t -> t.set(1, 0, 0, 1)));
        areSame(true, scene().thousand(0).with(t -> t.drop(1, 0, 1, true), t -> t.push(1, 1, 0)));
        sameHoweverMade();
    }

    /** Slot 0 is made by add; how the other was made leaves no trace. */
    private static void sameHoweverMade() {
        Scene added = scene().holding(0, SEQUENCE, 3, 4, 5);
        areSame(true, added.with(t -> t.iterate(1, 3, 0, 1), t -> t.list(1, 1, 3)));
        areSame(true, added.with(t -> t.make(1, SEQUENCE), t -> t.push(1, 1, 5), t -> t.push(1, 1, 4), t -> t.push(1, 1, 3)));
        areSame(true, added.with(t -> t.map(1, 0, 0, 0)));
        areSame(true, added.with(t -> t.filter(1, 0, 4, 0)));
        areSame(true, added.with(t -> t.set(1, 0, 1, 9), t -> t.set(1, 1, 1, 4)));
        areSame(true, added.with(t -> t.add(1, 0, 6), t -> t.pop(1, 1)));
        areSame(true, added.with(t -> t.drop(1, 0, 1, false), t -> t.drop(2, 0, 2, true), t -> t.join(1, 1, 2)));
        areSame(true, added.with(t -> t.open(0, 0), t -> t.freeze(0, 1)));
        areSame(true, added.holding(1, SET, 3, 4, 5).with(t -> t.turn(1, 1)));
        areSame(true, added.holding(1, MAP).with(t -> t.put(1, 1, 0, 3), t -> t.put(1, 1, 1, 4), t -> t.put(1, 1, 2, 5),
                t -> t.turn(1, 1)));
        Scene tree = scene().holding(0, TREE, 1, 2, 3, 4, 5, 6, 7).holding(1, TREE, 7, 6, 5, 4, 3, 2, 1, 0, 9);
        areSame(false, tree);
        areSame(true, tree.with(t -> t.range(1, 1, 1, 9)));
        areSame(true, tree.with(t -> t.out(1, 1, 0), t -> t.out(1, 1, 9)));
    }

    private static void sameHeaps() {
        areSame(true, two(HEAP, new long[] {5, 5, 6}, 5, 6, 5));
        areSame(false, two(HEAP, new long[] {5, 5, 6}, 5, 6, 6));
        areSame(false, two(HEAP, new long[] {5, 5}, 5));
        areSame(false, two(HEAP, new long[] {5, 5}, 5, 5, 5));
        areSame(true, two(HEAP, new long[] {1, 2, 3, 4, 5, 6}, 6, 5, 4, 3, 2, 1));
        areSame(false, two(HEAP, new long[] {1, 2, 3, 4, 5, 6}, 6, 5, 4, 3, 2, 0));
        areSame(false, two(HEAP, new long[] {1, 2, 3, 4, 5, 6}, 7, 5, 4, 3, 2, 1));
        areSame(true, two(HEAP, new long[] {LEAST, MOST, 0}, 0, MOST, LEAST));
        Scene full = scene().grown(0, HEAP, 1000).grown(1, HEAP, 999).with(t -> t.add(1, 1, 1000));
        areSame(false, full);
        areSame(true, scene().grown(0, HEAP, 1000).grown(1, HEAP, 1000));
        areSame(true, scene().holding(0, HEAP, 3, 1, 2).holding(1, HEAP, 2, 0, 3, 1).with(t -> t.pop(1, 1)));
        for (int size = 1; size <= 40; size++) {
            int n = size;
            // The same ones forwards and backwards, in a mixed order; then one more, one less, one other.
            Scene mixed = scene().with(t -> t.make(0, HEAP), t -> t.make(1, HEAP))
                    .each(n, (t, i) -> t.add(0, 0, i * 17 % 41)).each(n, (t, i) -> t.add(1, 1, (n - 1 - i) * 17 % 41));
            areSame(true, mixed);
            areSame(false, mixed.with(t -> t.pop(1, 1)));
            areSame(false, mixed.with(t -> t.pop(1, 1), t -> t.add(1, 1, 41)));
            areSame(false, mixed.with(t -> t.add(1, 1, 5)));
            areSame(true, mixed.with(t -> t.join(0, 0, 0), t -> t.join(1, 1, 1)));
        }
    }

    // ---------------------------------------------------------------- 22, 23

    private static void map() {
        allEmpty().with(t -> t.map(10, SEQUENCE, 0, 1)).holds(10);
        allEmpty().with(t -> t.map(10, SEQUENCE, 4, 0)).holds(10);
        allKinds().with(t -> t.map(10, SEQUENCE, 0, 1)).holds(10, 6, 7, 8);
        allKinds().with(t -> t.map(SEQUENCE, SEQUENCE, 6, 3)).holds(SEQUENCE, 2, 0, 1);
        allKinds().refuses(ARGUMENT, t -> t.map(10, SEQUENCE, 7, 1));
        allKinds().refuses(ARGUMENT, t -> t.map(10, SEQUENCE, -1, 1));
        Scene full = scene().thousand(0);
        full.with(t -> t.map(1, 0, 0, 1)).due(1000, t -> t.at(1, 999));
        full.with(t -> t.map(1, 0, 0, 1)).due(1000, t -> t.size(1));
        full.leaving(999).refuses(FULL, t -> t.map(1, 0, 0, 1));
        full.leaving(1000).goesWell(t -> t.map(1, 0, 0, 1));
        full.refuses(DIVISION, t -> t.map(1, 0, 5, 1));
        // The one that can't be divided by may be the last.
        scene().holding(0, SEQUENCE, 1, 2, 0).refuses(DIVISION, t -> t.map(1, 0, 5, 8));
    }

    private static void mapOfStream() {
        Scene numbers = scene().numbers(0);
        numbers.with(t -> t.map(1, 0, 0, 5)).dueCounts(1, 0);
        numbers.with(t -> t.map(1, 0, 0, 5), t -> t.front(1)).dueCounts(1, 0);
        numbers.with(t -> t.map(1, 0, 0, 5), t -> t.at(1, 1)).dueCounts(3, 2);
        numbers.with(t -> t.map(1, 0, 0, 5)).due(12, t -> t.at(1, 7));
        numbers.with(t -> t.map(1, 0, 0, 5)).due(7, t -> t.at(0, 7));
        scene().holding(0, STREAM).with(t -> t.map(1, 0, 4, 0)).holds(1);
        scene().holding(0, STREAM).with(t -> t.map(1, 0, 4, 0)).dueCounts(0, 0);
        scene().holding(0, STREAM, 5).with(t -> t.map(1, 0, 0, 1)).holds(1, 6);
        // The first at once: if it throws there is no such STREAM.
        Scene zero = scene().holding(0, STREAM, 0, 1);
        zero.refusesCounting(1, 0, DIVISION, t -> t.map(1, 0, 5, 6));
        zero.refusesCounting(1, 0, DIVISION, t -> t.map(0, 0, 5, 6));
        // Another that throws is none of its matter.
        Scene later = scene().holding(0, STREAM, 1, 0, 2).with(t -> t.map(1, 0, 5, 6));
        later.due(6, t -> t.front(1));
        later.refusesCounting(1, 2, DIVISION, t -> t.at(1, 1));
        // At its end it takes a CELL of its own and the other's, and no CALL.
        scene().holding(0, STREAM, 5).with(t -> t.map(1, 0, 0, 1)).refusesCounting(0, 2, NONE, t -> t.at(1, 1));
        numbers.leaving(0).goesWell(t -> t.map(1, 0, 0, 5));
    }

    private static void filter() {
        allEmpty().with(t -> t.filter(10, SEQUENCE, 4, 0)).holds(10);
        allEmpty().with(t -> t.filter(10, SET, 3, 0)).holds(10);
        for (int kind : new int[] {SEQUENCE, SET}) {
            allKinds().with(t -> t.filter(10, kind, 4, 0)).alike(10, allKinds(), kind);
            allKinds().with(t -> t.filter(10, kind, 0, 5)).holds(10);
            allKinds().with(t -> t.filter(10, kind, 0, 6)).holds(10, 5);
            allKinds().with(t -> t.filter(10, kind, 0, 8)).holds(10, 5, 6, 7);
            allKinds().with(t -> t.filter(10, kind, 0, 5)).due(kind, t -> t.kind(10));
            allKinds().refuses(ARGUMENT, t -> t.filter(10, kind, 5, 0));
            allKinds().refuses(ARGUMENT, t -> t.filter(10, kind, -1, 0));
            allKinds().refuses(DIVISION, t -> t.filter(10, kind, 3, 0));
            allKinds().leaving(2).refuses(FULL, t -> t.filter(10, kind, 0, 0));
            allKinds().leaving(3).goesWell(t -> t.filter(10, kind, 0, 0));
        }
        scene().holding(0, SET, 5, 37, 69).with(t -> t.filter(0, 0, 2, 37)).due(node(1 << 5, 0), t -> t.shape(0));
        scene().holding(0, SET, 5, 37).with(t -> t.filter(0, 0, 0, 0)).due(17 * 961, t -> t.shape(0));
        Scene full = scene().thousand(0);
        full.with(t -> t.filter(1, 0, 0, 999)).due(999, t -> t.size(1));
        full.with(t -> t.filter(1, 0, 2, 999)).holds(1, 999);
    }

    private static void filterOfStream() {
        Scene numbers = scene().numbers(0);
        numbers.with(t -> t.filter(1, 0, 2, 0)).dueCounts(1, 0);
        numbers.with(t -> t.filter(1, 0, 2, 3)).dueCounts(3 + 4, 3);
        numbers.with(t -> t.filter(1, 0, 2, 3)).due(3, t -> t.front(1));
        numbers.with(t -> t.filter(1, 0, 3, 3), t -> t.front(1)).dueCounts(1, 0);
        // The filter's CELL and three numbers: three functions, three tests.
        numbers.with(t -> t.filter(1, 0, 3, 3), t -> t.at(1, 1)).dueCounts(1 + 6, 1 + 3);
        scene().holding(0, STREAM).with(t -> t.filter(1, 0, 3, 0)).holds(1);
        scene().holding(0, STREAM).with(t -> t.filter(1, 0, 3, 0)).dueCounts(0, 0);
        // None passes: all are looked at, and the end is found.
        Scene few = scene().holding(0, STREAM, 5, 6, 7);
        few.with(t -> t.filter(1, 0, 2, 9)).dueCounts(3, 3);
        few.with(t -> t.filter(1, 0, 2, 9)).holds(1);
        few.with(t -> t.filter(1, 0, 2, 9)).refuses(NONE, t -> t.front(1));
        few.with(t -> t.filter(1, 0, 2, 7)).holds(1, 7);
        few.with(t -> t.filter(1, 0, 2, 7)).dueCounts(3, 2);
        few.with(t -> t.filter(1, 0, 4, 0)).holds(1, 5, 6, 7);
        few.leaving(2).goesWell(t -> t.filter(1, 0, 2, 7));
        few.leaving(2).refusesCounting(3, 2, FULL, t -> t.filter(1, 0, 2, 9));
        few.leaving(3).goesWell(t -> t.filter(1, 0, 2, 9));
        few.refusesCounting(1, 0, DIVISION, t -> t.filter(1, 0, 3, 0));
        few.refusesCounting(1, 0, DIVISION, t -> t.filter(0, 0, 3, 0));
    }

    private static void thousandLookedAt() {
        // 0 .. 999 are looked at for the first.
        Scene numbers = scene().numbers(0);
        numbers.with(t -> t.filter(1, 0, 2, 999)).due(999, t -> t.front(1));
        numbers.with(t -> t.filter(1, 0, 2, 999)).dueCounts(999 + 1000, 999);
        numbers.with(t -> t.filter(1, 0, 2, 1000)).refuses(NONE, t -> t.front(1));
        numbers.with(t -> t.filter(1, 0, 2, 1000)).dueCounts(999 + 1000, 999);
        // For the next one they are counted anew: from 1 to 1000, and from 1000 to 1999.
        Scene even = numbers.with(t -> t.filter(1, 0, 3, 1000));
        even.due(1000, t -> t.at(1, 1));
        even.due(2000, t -> t.at(1, 2));
        even.with(t -> t.at(1, 1)).dueCounts(1 + 1000 + 1000, 1 + 1000);
        Scene odd = numbers.with(t -> t.filter(1, 0, 3, 1001));
        odd.refusesCounting(1000 + 1000, 1 + 1000, NONE, t -> t.at(1, 1));
        odd.tried(t -> t.at(1, 1)).refuses(NONE, t -> t.at(1, 1));
        odd.with(t -> t.pop(1, 1)).refuses(NONE, t -> t.front(1));
        // A STREAM that ends at the thousandth: its end is not needed, if nothing more is looked at.
        Scene thousand = scene().thousand(0).with(t -> t.turn(0, 0));
        thousand.with(t -> t.filter(1, 0, 0, -1)).dueCounts(999 + 1000, 1999 + 999);
        thousand.with(t -> t.filter(1, 0, 0, -1)).holds(1);
        Scene less = scene().numbers(0).with(t -> t.list(0, 0, 999), t -> t.turn(0, 0));
        less.with(t -> t.filter(1, 0, 0, -1)).dueCounts(998 + 999, 1997 + 999);
        // All pass: each is found at once, and far more than 1000 are there.
        numbers.with(t -> t.filter(1, 0, 4, 0)).due(3000, t -> t.at(1, 3000));
    }

    private static void endsThere() {
        Scene numbers = scene().numbers(0).with(t -> t.filter(1, 0, 2, 1000));
        // 0 .. 999 are worked out, and 1000 is not.
        numbers.with(t -> t.at(0, 999)).dueCounts(1999, 999);
        numbers.with(t -> t.at(0, 1000)).dueCounts(2000, 1000);
        numbers.holds(1);
        numbers.with(t -> t.push(1, 1, 7)).holds(1, 7);
        // 1000 that can be divided by, then 0: that is not met, unless one less stands before it.
        Scene zero = scene().thousand(0).with(t -> t.map(0, 0, 0, 1), t -> t.turn(0, 0)).holding(1, STREAM, 0)
                .with(t -> t.join(0, 0, 1), t -> t.map(0, 0, 5, 5000));
        zero.goesWell(t -> t.filter(1, 0, 2, -1));
        zero.with(t -> t.filter(1, 0, 2, -1)).holds(1);
        zero.with(t -> t.pop(0, 0)).fails(DIVISION, t -> t.filter(1, 0, 2, -1));
        // The MOVE for the next is not needed either.
        scene().numbers(0).leaving(999).goesWell(t -> t.filter(1, 0, 2, 1000));
        scene().numbers(0).leaving(998).refusesCounting(998 + 999, 998, FULL, t -> t.filter(1, 0, 2, 1000));
    }

    // ---------------------------------------------------------------- 24 .. 27

    private static void iterate() {
        Scene scene = scene().with(t -> t.iterate(0, 3, 1, 2));
        scene.dueCounts(0, 0);
        scene.due(3, t -> t.front(0));
        scene.with(t -> t.front(0), t -> t.at(0, 0)).dueCounts(0, 0);
        scene.due(6, t -> t.at(0, 1));
        scene.due(12, t -> t.at(0, 2));
        scene.with(t -> t.at(0, 2)).dueCounts(2, 2);
        scene().refuses(ARGUMENT, t -> t.iterate(0, 3, 7, 2));
        scene().refuses(ARGUMENT, t -> t.iterate(0, 3, -1, 2));
        // What can't be divided is met only when it is needed.
        for (int f : new int[] {4, 6}) {
            scene().goesWell(t -> t.iterate(0, 3, f, 0));
            scene().with(t -> t.iterate(0, 3, f, 0)).refusesCounting(1, 1, DIVISION, t -> t.at(0, 1));
        }
        scene().goesWell(t -> t.iterate(0, 0, 5, 7));
        scene().with(t -> t.iterate(0, 0, 5, 7)).refusesCounting(1, 1, DIVISION, t -> t.at(0, 1));
        scene().with(t -> t.iterate(0, 8, 5, 7)).refusesCounting(2, 2, DIVISION, t -> t.at(0, 2));
        scene().with(t -> t.iterate(0, MOST, 0, 1)).due(LEAST, t -> t.at(0, 1));
        scene().leaving(0).goesWell(t -> t.iterate(0, 3, 0, 1));
        scene().leaving(0).with(t -> t.iterate(0, 3, 0, 1)).refuses(FULL, t -> t.at(0, 1));
    }

    private static void take() {
        Scene numbers = scene().numbers(0);
        numbers.with(t -> t.take(1, 0, 0)).holds(1);
        numbers.with(t -> t.take(1, 0, 1)).holds(1, 0);
        numbers.with(t -> t.take(1, 0, 2)).holds(1, 0, 1);
        numbers.with(t -> t.take(1, 0, 0)).due(STREAM, t -> t.kind(1));
        numbers.with(t -> t.take(1, 0, 5)).dueCounts(0, 0);
        numbers.refuses(ARGUMENT, t -> t.take(1, 0, -1));
        numbers.refuses(ARGUMENT, t -> t.take(1, 0, Integer.MIN_VALUE));
        numbers.with(t -> t.take(1, 0, Integer.MAX_VALUE)).due(50, t -> t.at(1, 50));
        Scene three = scene().holding(0, STREAM, 5, 6, 7);
        three.with(t -> t.take(1, 0, 2)).holds(1, 5, 6);
        three.with(t -> t.take(1, 0, 3)).holds(1, 5, 6, 7);
        three.with(t -> t.take(1, 0, 4)).holds(1, 5, 6, 7);
        three.with(t -> t.take(1, 0, Integer.MAX_VALUE)).holds(1, 5, 6, 7);
        scene().holding(0, STREAM).with(t -> t.take(1, 0, 0)).holds(1);
        scene().holding(0, STREAM).with(t -> t.take(1, 0, 9)).holds(1);
        numbers.leaving(0).goesWell(t -> t.take(1, 0, 9));
        three.with(t -> t.take(0, 0, 2), t -> t.take(0, 0, 1)).holds(0, 5);
    }

    private static void restNeedsNothing() {
        Scene numbers = scene().numbers(0);
        // Of the first alone: no CELL at all, however it is asked for.
        Scene one = numbers.with(t -> t.take(1, 0, 1));
        one.refuses(NONE, t -> t.at(1, 1));
        one.with(t -> t.pop(2, 1)).dueCounts(0, 0);
        one.with(t -> t.pop(2, 1)).refuses(NONE, t -> t.front(2));
        one.with(t -> t.list(2, 1, 9)).dueCounts(0, 9);
        one.leaving(0).due(0, t -> t.pop(2, 1));
        one.leaving(0).refuses(NONE, t -> t.at(1, 1));
        // Of two: the first one's rest is a CELL, the second's is not.
        Scene two = numbers.with(t -> t.take(1, 0, 2));
        two.with(t -> t.at(1, 1)).dueCounts(1, 2);
        two.refusesCounting(1, 2, NONE, t -> t.at(1, 2));
        two.with(t -> t.at(1, 1)).refuses(NONE, t -> t.at(1, 2));
        two.leaving(2).refusesCounting(1, 2, NONE, t -> t.at(1, 2));
        two.leaving(1).refusesCounting(0, 1, FULL, t -> t.at(1, 2));
        // What would throw is never needed.
        Scene broken = scene().with(t -> t.iterate(0, 8, 4, 0), t -> t.take(1, 0, 1));
        broken.refuses(NONE, t -> t.at(1, 1));
        broken.due(8, t -> t.pop(1, 1));
        broken.due(1, t -> t.list(2, 1, 9));
        // If the other ends before, its end must be found.
        Scene ends = scene().holding(0, STREAM, 5).with(t -> t.take(1, 0, 2));
        ends.refusesCounting(0, 2, NONE, t -> t.at(1, 1));
        scene().holding(0, STREAM, 5).with(t -> t.take(1, 0, 1)).refuses(NONE, t -> t.at(1, 1));
    }

    private static void list() {
        Scene numbers = scene().numbers(0);
        numbers.due(0, t -> t.list(1, 0, 0));
        numbers.with(t -> t.list(1, 0, 0)).holds(1);
        numbers.with(t -> t.list(1, 0, 0)).due(SEQUENCE, t -> t.kind(1));
        numbers.due(1, t -> t.list(1, 0, 1));
        numbers.with(t -> t.list(1, 0, 3)).holds(1, 0, 1, 2);
        numbers.due(1000, t -> t.list(1, 0, 1000));
        numbers.with(t -> t.list(1, 0, 1000)).due(999, t -> t.at(1, 999));
        numbers.refuses(ARGUMENT, t -> t.list(1, 0, 1001));
        numbers.refuses(ARGUMENT, t -> t.list(1, 0, -1));
        Scene three = scene().holding(0, STREAM, 5, 6, 7);
        three.due(2, t -> t.list(1, 0, 2));
        three.due(3, t -> t.list(1, 0, 3));
        three.due(3, t -> t.list(1, 0, 4));
        three.due(3, t -> t.list(1, 0, 1000));
        three.with(t -> t.list(1, 0, 4)).holds(1, 5, 6, 7);
        three.with(t -> t.list(0, 0, 4)).holds(0, 5, 6, 7);
        Scene empty = scene().holding(0, STREAM);
        empty.due(0, t -> t.list(1, 0, 0));
        empty.due(0, t -> t.list(1, 0, 1000));
        empty.with(t -> t.list(1, 0, 1000)).holds(1);
        // A SEQUENCE may be turned and listed as it is.
        Scene round = scene().thousand(0).with(t -> t.turn(1, 0), t -> t.list(1, 1, 1000));
        round.due(1, t -> t.same(0, 1) ? 1 : 0);
    }

    private static void notBehindTheLast() {
        Scene numbers = scene().numbers(0);
        numbers.with(t -> t.list(1, 0, 1)).dueCounts(0, 1);
        numbers.with(t -> t.list(1, 0, 4)).dueCounts(3, 4 + 3);
        numbers.with(t -> t.list(1, 0, 4), t -> t.at(0, 3)).dueCounts(3, 7);
        numbers.with(t -> t.list(1, 0, 4), t -> t.at(0, 4)).dueCounts(4, 8);
        numbers.with(t -> t.list(1, 0, 1000)).dueCounts(999, 1999);
        // What stands there may be what can't be worked out.
        Scene broken = scene().with(t -> t.iterate(0, 8, 5, 7));
        broken.due(2, t -> t.list(1, 0, 2));
        broken.refusesCounting(2, 2, DIVISION, t -> t.list(1, 0, 3));
        Scene three = scene().holding(0, STREAM, 5, 6, 7);
        three.with(t -> t.list(1, 0, 3)).dueCounts(0, 3 + 2);
        three.with(t -> t.list(1, 0, 4)).dueCounts(0, 4 + 3);
        // Exactly the MOVES that it needs.
        numbers.leaving(7).due(4, t -> t.list(1, 0, 4));
        numbers.leaving(6).refusesCounting(3, 3, FULL, t -> t.list(1, 0, 4));
        numbers.leaving(2).refusesCounting(2, 2, FULL, t -> t.list(1, 0, 4));
        numbers.leaving(0).due(0, t -> t.list(1, 0, 0));
        numbers.leaving(1).due(1, t -> t.list(1, 0, 1));
        numbers.leaving(0).refuses(FULL, t -> t.list(1, 0, 1));
    }

    private static void movesOfList() {
        Scene empty = scene().holding(0, STREAM);
        empty.with(t -> t.list(1, 0, 7)).dueCounts(0, 7);
        empty.with(t -> t.list(1, 0, 1000)).dueCounts(0, 1000);
        empty.leaving(6).refuses(FULL, t -> t.list(1, 0, 7));
        empty.leaving(7).due(0, t -> t.list(1, 0, 7));
        // One ELEMENT and its end.
        Scene one = scene().holding(0, STREAM, 5);
        one.with(t -> t.list(1, 0, 7)).dueCounts(0, 7 + 1);
        one.leaving(8).due(1, t -> t.list(1, 0, 7));
        one.leaving(7).refusesCounting(0, 1, FULL, t -> t.list(1, 0, 7));
        Scene taken = scene().numbers(0).with(t -> t.take(0, 0, 1));
        taken.with(t -> t.list(1, 0, 7)).dueCounts(0, 7);
    }

    private static void turn() {
        scene().holding(0, SEQUENCE).with(t -> t.turn(1, 0)).holds(1);
        scene().holding(0, SEQUENCE).with(t -> t.turn(1, 0)).due(STREAM, t -> t.kind(1));
        scene().holding(0, SEQUENCE, 5).with(t -> t.turn(1, 0)).holds(1, 5);
        scene().holding(0, SEQUENCE, 5, 6).leaving(0).goesWell(t -> t.turn(1, 0));
        scene().holding(0, SEQUENCE, 5, 6).with(t -> t.turn(1, 0)).dueCounts(0, 0);
        for (int kind : new int[] {MAP, TREE, SET}) {
            Scene empty = scene().holding(0, kind);
            empty.with(t -> t.turn(1, 0)).holds(1);
            empty.with(t -> t.turn(1, 0)).due(SEQUENCE, t -> t.kind(1));
            empty.leaving(0).goesWell(t -> t.turn(1, 0));
            Scene three = scene().holding(0, kind, 64, 32, 1);
            three.with(t -> t.turn(1, 0)).dueCounts(0, 3);
            three.leaving(3).goesWell(t -> t.turn(1, 0));
            three.leaving(2).refuses(FULL, t -> t.turn(1, 0));
            three.leaving(2).refuses(FULL, t -> t.turn(0, 0));
            long factor = kind == SET ? 1 : 10;
            three.with(t -> t.turn(1, 0)).holds(1, factor, 32 * factor, 64 * factor);
        }
        // The ORDER of a MAP or SET is not that of its keys.
        scene().holding(0, SET, 1, 33, 2).with(t -> t.turn(0, 0)).holds(0, 2, 1, 33);
        scene().holding(0, MAP, 1, 33, 2).with(t -> t.turn(0, 0)).holds(0, 20, 10, 330);
        scene().holding(0, TREE, 33, 1, 2).with(t -> t.turn(0, 0)).holds(0, 10, 20, 330);
        // Two keys that have the same value give it twice.
        scene().holding(0, MAP).with(t -> t.put(0, 0, 1, 7), t -> t.put(0, 0, 2, 7), t -> t.turn(0, 0)).holds(0, 7, 7);
        Scene full = scene().thousand(0).with(t -> t.turn(0, 0));
        full.due(999, t -> t.at(0, 999));
        full.refusesCounting(0, 1000, NONE, t -> t.at(0, 1000));
    }

    // ---------------------------------------------------------------- 28 .. 32

    private static void open() {
        for (int kind : new int[] {SEQUENCE, MAP, SET}) {
            for (int b : new int[] {0, 3}) {
                Scene scene = scene().holding(0, kind, 5, 6, 7);
                scene.with(t -> t.open(b, 0)).due(1, t -> t.count(OPEN));
                scene.with(t -> t.open(b, 0), t -> t.freeze(b, 1)).alike(1, scene, 0);
                Scene empty = scene().holding(0, kind);
                empty.with(t -> t.open(b, 0)).due(0, t -> t.freeze(b, 1));
                empty.with(t -> t.open(b, 0), t -> t.freeze(b, 1)).due(kind, t -> t.kind(1));
                empty.with(t -> t.open(b, 0), t -> t.freeze(b, 1)).holds(1);
                scene.with(t -> t.open(b, 0)).refuses(STATE, t -> t.open(b, 0));
            }
        }
        allEmpty().refuses(ARGUMENT, t -> t.open(4, 0));
        allEmpty().refuses(ARGUMENT, t -> t.open(-1, 0));
        allEmpty().refuses(ARGUMENT, t -> t.open(0, 24));
        allEmpty().refuses(ARGUMENT, t -> t.open(0, -1));
        allKinds().refuses(ARGUMENT, t -> t.open(0, 24));
        for (int kind : new int[] {TREE, QUEUE, HEAP, STREAM}) {
            allKinds().refuses(STATE, t -> t.open(3, kind));
        }
        allKinds().refuses(STATE, t -> t.open(3, 20));
        Scene full = scene().thousand(0).with(t -> t.open(0, 0));
        full.due(999, t -> t.look(0, 999));
        full.refuses(NONE, t -> t.look(0, 1000));
        // A shorter one leaves nothing of a longer one that the builder had before.
        Scene again = full.with(t -> t.freeze(0, 1)).holding(2, SEQUENCE, 5).with(t -> t.open(0, 2));
        again.refuses(NONE, t -> t.look(0, 1));
        again.refuses(NONE, t -> t.build(0, 1, 1, 9));
        again.due(2, t -> t.build(0, 0, 0, 9));
    }

    private static void buildOfSequence() {
        Scene empty = scene().with(t -> t.make(0, SEQUENCE), t -> t.open(0, 0));
        empty.due(1, t -> t.build(0, 0, 0, 9));
        empty.due(1, t -> t.build(0, 0, MOST, 9));
        empty.refuses(NONE, t -> t.build(0, 1, 0, 9));
        empty.refuses(NONE, t -> t.build(0, 2, 0, 9));
        empty.refuses(ARGUMENT, t -> t.build(0, 3, 0, 9));
        empty.refuses(ARGUMENT, t -> t.build(0, -1, 0, 9));
        Scene three = scene().holding(0, SEQUENCE, 5, 6, 7).with(t -> t.open(0, 0));
        three.due(3, t -> t.build(0, 1, 0, 9));
        three.due(3, t -> t.build(0, 1, 2, 9));
        three.with(t -> t.build(0, 1, 2, 9), t -> t.freeze(0, 1)).holds(1, 5, 6, 9);
        three.with(t -> t.build(0, 1, 0, 9), t -> t.freeze(0, 1)).holds(1, 9, 6, 7);
        for (long key : new long[] {3, -1, 1L << 32, -1L << 32, 1L << 32 | 1, LEAST, MOST}) {
            three.refuses(NONE, t -> t.build(0, 1, key, 9));
        }
        three.due(2, t -> t.build(0, 2, 99, 99));
        three.with(t -> t.build(0, 2, 99, 99), t -> t.freeze(0, 1)).holds(1, 5, 6);
        Scene none = three.times(3, t -> t.build(0, 2, 0, 0));
        none.refuses(NONE, t -> t.build(0, 2, 0, 0));
        none.refuses(NONE, t -> t.build(0, 1, 0, 9));
        none.due(1, t -> t.build(0, 0, 0, 9));
        Scene full = scene().thousand(0).with(t -> t.open(0, 0));
        full.refuses(FULL, t -> t.build(0, 0, 0, 9));
        full.due(1000, t -> t.build(0, 1, 999, 9));
        full.refuses(NONE, t -> t.build(0, 1, 1000, 9));
        full.due(999, t -> t.build(0, 2, 0, 0));
        full.with(t -> t.build(0, 2, 0, 0)).due(1000, t -> t.build(0, 0, 0, 9));
        full.with(t -> t.build(0, 2, 0, 0), t -> t.build(0, 0, 0, 9)).refuses(FULL, t -> t.build(0, 0, 0, 9));
    }

    private static void buildOfKeys() {
        for (int kind : new int[] {MAP, SET}) {
            Scene empty = scene().with(t -> t.make(0, kind), t -> t.open(0, 0));
            empty.due(1, t -> t.build(0, 0, 5, 9));
            empty.due(0, t -> t.build(0, 2, 5, 9));
            empty.refuses(UNSUPPORTED, t -> t.build(0, 1, 5, 9));
            empty.refuses(ARGUMENT, t -> t.build(0, 3, 5, 9));
            empty.refuses(ARGUMENT, t -> t.build(0, -1, 5, 9));
            Scene three = scene().holding(0, kind, 5, 37, 6).with(t -> t.open(0, 0));
            three.due(3, t -> t.build(0, 0, 37, 9));
            three.due(4, t -> t.build(0, 0, 69, 9));
            three.due(2, t -> t.build(0, 2, 37, 9));
            three.due(3, t -> t.build(0, 2, 69, 9));
            // There or not, UnsupportedOperationException.
            three.refuses(UNSUPPORTED, t -> t.build(0, 1, 37, 9));
            three.refuses(UNSUPPORTED, t -> t.build(0, 1, 69, 9));
            three.refuses(UNSUPPORTED, t -> t.build(0, 1, 0, 9));
            three.refuses(ARGUMENT, t -> t.build(0, 3, 37, 9));
            three.with(t -> t.build(0, 0, 37, 9)).due(kind == SET ? 1 : 9, t -> t.look(0, 37));
            three.with(t -> t.build(0, 2, 37, 9)).refuses(NONE, t -> t.look(0, 37));
            Scene none = three.with(t -> t.build(0, 2, 5, 0), t -> t.build(0, 2, 6, 0), t -> t.build(0, 2, 37, 0));
            none.due(0, t -> t.freeze(0, 1));
            none.due(0, t -> t.build(0, 2, 37, 0));
            none.due(1, t -> t.build(0, 0, 37, 0));
            none.with(t -> t.freeze(0, 1)).holds(1);
            // A SET has no values, whatever v is.
            empty.with(t -> t.build(0, 0, 5, LEAST)).due(kind == SET ? 1 : LEAST, t -> t.look(0, 5));
        }
        Scene notOpen = scene().holding(0, SET, 5);
        notOpen.refuses(STATE, t -> t.build(0, 1, 5, 9));
        notOpen.refuses(ARGUMENT, t -> t.build(0, 3, 5, 9));
        notOpen.refuses(ARGUMENT, t -> t.build(4, 1, 5, 9));
    }

    private static void look() {
        Scene sequence = scene().holding(0, SEQUENCE, 5, 6, 7).with(t -> t.open(0, 0));
        sequence.due(5, t -> t.look(0, 0));
        sequence.due(7, t -> t.look(0, 2));
        for (long i : new long[] {3, -1, 1L << 32, -1L << 32, 1L << 32 | 2, LEAST, MOST}) {
            sequence.refuses(NONE, t -> t.look(0, i));
        }
        sequence.with(t -> t.build(0, 0, 0, 8)).due(8, t -> t.look(0, 3));
        sequence.with(t -> t.build(0, 2, 0, 8)).refuses(NONE, t -> t.look(0, 2));
        scene().holding(0, SEQUENCE).with(t -> t.open(0, 0)).refuses(NONE, t -> t.look(0, 0));
        for (int kind : new int[] {MAP, SET}) {
            Scene keys = scene(1).holding(0, kind, -1, 255, LEAST).with(t -> t.open(0, 0));
            keys.due(kind == SET ? 1 : -10, t -> t.look(0, -1));
            keys.due(kind == SET ? 1 : 2550, t -> t.look(0, 255));
            keys.due(kind == SET ? 1 : 10 * LEAST, t -> t.look(0, LEAST));
            for (long key : new long[] {511, 0, MOST, 1}) {
                keys.refuses(NONE, t -> t.look(0, key));
            }
            scene(1).holding(0, kind).with(t -> t.open(0, 0)).refuses(NONE, t -> t.look(0, 0));
        }
        allKinds().refuses(ARGUMENT, t -> t.look(-1, 0));
        allKinds().refuses(ARGUMENT, t -> t.look(4, 0));
        allKinds().refuses(STATE, t -> t.look(3, 0));
    }

    private static void freeze() {
        for (int kind : new int[] {SEQUENCE, MAP, SET}) {
            Scene opened = scene().holding(0, kind, 5, 37).with(t -> t.open(3, 0), t -> t.build(3, 0, 69, 69));
            opened.due(3, t -> t.freeze(3, 23));
            opened.due(3, t -> t.freeze(3, 0));
            opened.with(t -> t.freeze(3, 23)).holds(23, 5, 37, 69);
            opened.with(t -> t.freeze(3, 23)).holds(0, 5, 37);
            opened.with(t -> t.freeze(3, 23)).due(0, t -> t.count(OPEN));
            opened.with(t -> t.freeze(3, 23)).refuses(STATE, t -> t.freeze(3, 23));
            for (int slot : new int[] {-1, 24}) {
                opened.refuses(ARGUMENT, t -> t.freeze(3, slot));
                scene().refuses(ARGUMENT, t -> t.freeze(3, slot));
            }
            opened.refuses(ARGUMENT, t -> t.freeze(4, 0));
            opened.refuses(ARGUMENT, t -> t.freeze(-1, 0));
            opened.refuses(STATE, t -> t.freeze(2, 0));
            // What is made of the frozen one leaves it alone, in the old way and by a builder.
            Scene frozen = opened.with(t -> t.freeze(3, 1));
            frozen.with(t -> t.open(3, 1), t -> t.build(3, 0, 101, 7), t -> t.build(3, 2, 37, 0)).alike(1, frozen, 1);
        }
        Scene full = scene().thousand(0).with(t -> t.open(0, 0));
        full.due(1000, t -> t.freeze(0, 1));
        full.with(t -> t.freeze(0, 1)).due(999, t -> t.at(1, 999));
        full.leaving(0).due(1000, t -> t.freeze(0, 1));
    }

    private static void countOfCallsAndMoves() {
        scene().numbers(0).with(t -> t.at(0, 20000)).dueCounts(20000, 20000);
        scene().numbers(0).tried(t -> t.at(0, 20001)).dueCounts(20000, 20000);
        // CALLS have no end: only what takes MOVES has.
        Scene tests = scene().numbers(0).with(t -> t.at(0, 20000)).times(3, t -> t.filter(1, 0, 2, -1));
        tests.dueCounts(23000, 20000);
        scene().holding(0, SEQUENCE, 1, 2).with(t -> t.map(0, 0, 0, 1), t -> t.same(0, 0)).dueCounts(0, 6);
        scene().refuses(ARGUMENT, t -> t.count(4));
        scene().refuses(ARGUMENT, t -> t.count(-1));
        // To ask changes nothing.
        scene().numbers(0).with(t -> t.at(0, 3), t -> t.count(0), t -> t.count(1), t -> t.count(3)).dueCounts(3, 3);
    }

    private static void countOfOthers() {
        Scene scene = scene().holding(0, SET, 5);
        for (int n = 0; n <= 4; n++) {
            int open = n;
            scene.each(open, (t, i) -> t.open(i, 0)).due(open, t -> t.count(OPEN));
            scene.each(open, (t, i) -> t.open(3 - i, 0)).due(open, t -> t.count(OPEN));
        }
        Scene all = scene.each(4, (t, i) -> t.open(i, 0));
        all.tried(t -> t.open(0, 0)).due(4, t -> t.count(OPEN));
        all.with(t -> t.freeze(2, 1)).due(3, t -> t.count(OPEN));
        all.tried(t -> t.freeze(2, 24)).due(4, t -> t.count(OPEN));
        for (Scene any : new Scene[] {scene(), allEmpty(), allKinds(), allKinds().leaving(0), scene().thousand(0)}) {
            any.due(0, t -> t.count(UNSOUND));
        }
        scene().grown(0, HEAP, 1000).due(0, t -> t.count(UNSOUND));
        scene().grown(0, QUEUE, 1000).due(0, t -> t.count(UNSOUND));
        Scene edges = scene().holding(0, TREE, LEAST, MOST, 0).holding(1, SET, LEAST, MOST, 0, -1);
        edges.due(0, t -> t.count(UNSOUND));
    }
}
