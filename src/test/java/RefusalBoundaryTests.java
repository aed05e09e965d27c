import java.util.ArrayList;
import java.util.List;

/**
 * "What is thrown, in this order", for every call of the face: numbers out of range, slots that hold none or
 * one of another kind, builders that are not open, then what the call says, then FULL; and that a call that
 * throws changes nothing, but as said.
 */
public final class RefusalBoundaryTests extends Boundary {
    private static final int NOTHING_READ = -1;
    private static final int HOLDS_NONE = 20;

    public static void main(String[] args) {
        sentence("SLOTS 0 .. 23 (so for all)", () -> rangesOf(Range.SLOT));
        sentence("kind 0 .. 6", () -> rangesOf(Range.KIND));
        sentence("i 0 or more, n 0 or more", () -> rangesOf(Range.FROM_ZERO));
        sentence("way 0 .. 3", () -> rangesOf(Range.WAY));
        sentence("f 0 .. 6", () -> rangesOf(Range.FUNCTION));
        sentence("a TEST, 0 .. 4", () -> rangesOf(Range.TEST));
        sentence("its first n, 0 .. 1000", () -> rangesOf(Range.LISTED));
        sentence("b 0 .. 3 (so for all)", () -> rangesOf(Range.BUILDER));
        sentence("build: what 0, 1 or 2", () -> rangesOf(Range.WHAT));
        sentence("what 0 .. 3", () -> rangesOf(Range.COUNTED));
        sentence("IllegalArgumentException comes first", RefusalBoundaryTests::argumentsFirst);
        sentence("a SLOT that is read holds none", RefusalBoundaryTests::holdsNone);
        sentence("or one of another KIND than told", RefusalBoundaryTests::otherKinds);
        sentence("of two that are read, either may be wrong", RefusalBoundaryTests::twoThatAreRead);
        sentence("a BUILDER is not OPEN (for open: it is)", RefusalBoundaryTests::builders);
        sentence("IllegalStateException comes before what the call says", RefusalBoundaryTests::stateBeforeRest);
        sentence("then as the call says; FULL last", RefusalBoundaryTests::fullLast);
        sentence("FULL last, for the DEPTH of a STREAM", RefusalBoundaryTests::fullLastOfDepth);
        sentence("FULL last, for list", RefusalBoundaryTests::fullLastOfList);
        sentence("A call that throws changes nothing (other MOVES neither)", RefusalBoundaryTests::otherMoves);
        sentence("what a SLOT that is set holds is no matter", RefusalBoundaryTests::slotThatIsSet);
        end();
    }

    // ---------------------------------------------------------------- the calls

    private enum Range {
        SLOT(0, 23), BUILDER(0, 3), KIND(0, 6), WAY(0, 3), FUNCTION(0, 6), TEST(0, 4),
        FROM_ZERO(0, Integer.MAX_VALUE), LISTED(0, 1000), WHAT(0, 2), COUNTED(0, 3);

        final int low;
        final int high;

        Range(int low, int high) {
            this.low = low;
            this.high = high;
        }

        int[] outside() {
            return high == Integer.MAX_VALUE ? new int[] {low - 1, Integer.MIN_VALUE}
                    : new int[] {low - 1, high + 1, Integer.MIN_VALUE, Integer.MAX_VALUE};
        }
    }

    private interface Body {
        void on(PersistentTrove t, int[] n);
    }

    /** A call of the face, with those of its numbers that have a range. */
    private static final class Row {
        final String name;
        final Range[] ranges;
        final Body body;
        int read = NOTHING_READ;
        String kinds = "";

        Row(String name, Body body, Range... ranges) {
            this.name = name;
            this.body = body;
            this.ranges = ranges;
        }

        /** Which of the numbers is a slot that is read, and what kinds it may hold. */
        Row reads(int place, String some) {
            read = place;
            kinds = some;
            return this;
        }

        /** All numbers are fine: the least ones, and slot 10 to be set. */
        int[] fine() {
            int[] n = new int[ranges.length];
            if (ranges.length > 1 && ranges[0] == Range.SLOT && ranges[1] == Range.SLOT) {
                n[0] = 10;
            }
            return n;
        }

        int[] fineBut(int place, int number) {
            int[] n = fine();
            n[place] = number;
            return n;
        }
    }

    private static List<Row> face() {
        Range s = Range.SLOT;
        Range b = Range.BUILDER;
        List<Row> rows = new ArrayList<>();
        rows.add(new Row("make", (t, n) -> t.make(n[0], n[1]), s, Range.KIND));
        rows.add(new Row("copy", (t, n) -> t.copy(n[0], n[1]), s, s).reads(1, "0123456"));
        rows.add(new Row("size", (t, n) -> t.size(n[0]), s).reads(0, "012345"));
        rows.add(new Row("kind", (t, n) -> t.kind(n[0]), s));
        rows.add(new Row("add", (t, n) -> t.add(n[0], n[1], 1), s, s).reads(1, "0245"));
        rows.add(new Row("push", (t, n) -> t.push(n[0], n[1], 1), s, s).reads(1, "06"));
        rows.add(new Row("set", (t, n) -> t.set(n[0], n[1], 0, 1), s, s).reads(1, "0"));
        rows.add(new Row("at", (t, n) -> t.at(n[0], n[1]), s, Range.FROM_ZERO).reads(0, "01236"));
        rows.add(new Row("drop", (t, n) -> t.drop(n[0], n[1], n[2], true), s, s, Range.FROM_ZERO).reads(1, "0"));
        rows.add(new Row("pop", (t, n) -> t.pop(n[0], n[1]), s, s).reads(1, "0456"));
        rows.add(new Row("front", (t, n) -> t.front(n[0]), s).reads(0, "456"));
        rows.add(new Row("put", (t, n) -> t.put(n[0], n[1], 1, 1), s, s).reads(1, "13"));
        rows.add(new Row("find", (t, n) -> t.find(n[0], 5), s).reads(0, "123"));
        rows.add(new Row("out", (t, n) -> t.out(n[0], n[1], 5), s, s).reads(1, "123"));
        rows.add(new Row("near", (t, n) -> t.near(n[0], 6, n[1]), s, Range.WAY).reads(0, "3"));
        rows.add(new Row("range", (t, n) -> t.range(n[0], n[1], 5, 7), s, s).reads(1, "3"));
        rows.add(new Row("join", (t, n) -> t.join(n[0], n[1], n[2]), s, s, s));
        rows.add(new Row("meet", (t, n) -> t.meet(n[0], n[1], n[2], true), s, s, s));
        rows.add(new Row("shape", (t, n) -> t.shape(n[0]), s).reads(0, "12"));
        rows.add(new Row("same", (t, n) -> t.same(n[0], n[1]), s, s));
        rows.add(new Row("map", (t, n) -> t.map(n[0], n[1], n[2], 1), s, s, Range.FUNCTION).reads(1, "06"));
        rows.add(new Row("filter", (t, n) -> t.filter(n[0], n[1], n[2], 1), s, s, Range.TEST).reads(1, "026"));
        rows.add(new Row("iterate", (t, n) -> t.iterate(n[0], 1, n[1], 1), s, Range.FUNCTION));
        rows.add(new Row("take", (t, n) -> t.take(n[0], n[1], n[2]), s, s, Range.FROM_ZERO).reads(1, "6"));
        rows.add(new Row("list", (t, n) -> t.list(n[0], n[1], n[2]), s, s, Range.LISTED).reads(1, "6"));
        rows.add(new Row("turn", (t, n) -> t.turn(n[0], n[1]), s, s).reads(1, "0123"));
        rows.add(new Row("open", (t, n) -> t.open(n[0], n[1]), b, s).reads(1, "012"));
        rows.add(new Row("build", (t, n) -> t.build(n[0], n[1], 0, 1), b, Range.WHAT));
        rows.add(new Row("look", (t, n) -> t.look(n[0], 0), b));
        rows.add(new Row("freeze", (t, n) -> t.freeze(n[0], n[1]), b, s));
        rows.add(new Row("count", (t, n) -> t.count(n[0]), Range.COUNTED));
        return rows;
    }

    // ---------------------------------------------------------------- numbers out of range

    /** For every call that has such a number: the last ones that are allowed, and the first that are not. */
    private static void rangesOf(Range range) {
        int found = 0;
        for (Row row : face()) {
            for (int place = 0; place < row.ranges.length; place++) {
                if (row.ranges[place] == range) {
                    found++;
                    outside(row, place);
                    inside(row, place, range.low);
                    inside(row, place, range.high);
                }
            }
        }
        if (found == 0) {
            tell("no call has such a number");
        }
    }

    private static void outside(Row row, int place) {
        for (int number : row.ranges[place].outside()) {
            int[] n = row.fineBut(place, number);
            scene().refuses(ARGUMENT, t -> row.body.on(t, n));
            allKinds().refuses(ARGUMENT, t -> row.body.on(t, n));
        }
    }

    /** It may throw something, as the call says, but not that a number is out of range. */
    private static void inside(Row row, int place, int number) {
        int[] n = row.fineBut(place, number);
        for (Scene scene : new Scene[] {scene(), allKinds(), allEmpty()}) {
            try {
                row.body.on(scene.played(), n);
            } catch (IllegalArgumentException e) {
                tell(row.name + " refuses " + number);
            } catch (RuntimeException e) {
                continue;
            }
        }
    }

    private static void argumentsFirst() {
        for (Row row : face()) {
            for (int place = 0; place < row.ranges.length; place++) {
                int bad = row.ranges[place].low - 1;
                // The slots that are read hold none, or the wrong kinds, and no builder is open.
                int[] n = row.fineBut(place, bad);
                scene().refuses(ARGUMENT, t -> row.body.on(t, n));
                allEmpty().refuses(ARGUMENT, t -> row.body.on(t, n));
                for (int other = 0; other < row.ranges.length; other++) {
                    int[] two = row.fineBut(place, bad);
                    two[other] = row.ranges[other].low - 1;
                    allKinds().refuses(ARGUMENT, t -> row.body.on(t, two));
                }
            }
        }
        Scene noMoves = allKinds().leaving(0);
        noMoves.refuses(ARGUMENT, t -> t.list(10, STREAM, 1001));
        noMoves.refuses(ARGUMENT, t -> t.at(STREAM, -1));
        noMoves.refuses(ARGUMENT, t -> t.map(10, SEQUENCE, 7, 0));
        noMoves.refuses(ARGUMENT, t -> t.filter(10, SEQUENCE, 5, 0));
        noMoves.refuses(ARGUMENT, t -> t.range(24, TREE, 0, 9));
        noMoves.refuses(ARGUMENT, t -> t.turn(24, TREE));
    }

    // ---------------------------------------------------------------- slots and builders

    private static void holdsNone() {
        for (Row row : face()) {
            if (row.read != NOTHING_READ) {
                int[] n = row.fineBut(row.read, HOLDS_NONE);
                scene().refuses(STATE, t -> row.body.on(t, n));
                allEmpty().refuses(STATE, t -> row.body.on(t, n));
            }
        }
        // kind alone has an answer for it.
        scene().due(-1, t -> t.kind(HOLDS_NONE));
    }

    private static void otherKinds() {
        for (Row row : face()) {
            for (int kind = SEQUENCE; row.read != NOTHING_READ && kind <= STREAM; kind++) {
                boolean told = row.kinds.indexOf('0' + kind) >= 0;
                int[] n = row.fineBut(row.read, kind);
                if (told) {
                    threeOf(kind).goesWell(t -> row.body.on(t, n));
                } else {
                    threeOf(kind).refuses(STATE, t -> row.body.on(t, n));
                    allEmpty().refuses(STATE, t -> row.body.on(t, n));
                }
            }
        }
    }

    private static Scene threeOf(int kind) {
        return scene().holding(kind, kind, 5, 6, 7);
    }

    private static void twoThatAreRead() {
        for (Scene scene : new Scene[] {allKinds(), allEmpty()}) {
            for (int a = SEQUENCE; a <= STREAM; a++) {
                int one = a;
                scene.refuses(STATE, t -> t.join(10, one, HOLDS_NONE));
                scene.refuses(STATE, t -> t.join(10, HOLDS_NONE, one));
                scene.refuses(STATE, t -> t.same(one, HOLDS_NONE));
                scene.refuses(STATE, t -> t.same(HOLDS_NONE, one));
                scene.refuses(STATE, t -> t.meet(10, one, HOLDS_NONE, true));
                scene.refuses(STATE, t -> t.meet(10, HOLDS_NONE, one, false));
                for (int b = SEQUENCE; b <= STREAM; b++) {
                    twoKinds(scene, a, b);
                }
            }
            scene.refuses(STATE, t -> t.join(10, HOLDS_NONE, HOLDS_NONE));
            scene.refuses(STATE, t -> t.same(HOLDS_NONE, HOLDS_NONE));
            scene.refuses(STATE, t -> t.meet(10, HOLDS_NONE, HOLDS_NONE, true));
        }
    }

    private static void twoKinds(Scene scene, int a, int b) {
        if (a == b) {
            scene.goesWell(t -> t.join(10, a, b));
        } else {
            scene.refuses(STATE, t -> t.join(10, a, b));
        }
        if (a == b && a != STREAM) {
            scene.goesWell(t -> t.same(a, b));
        } else {
            scene.refuses(STATE, t -> t.same(a, b));
        }
        if (a == SET && b == SET) {
            scene.goesWell(t -> t.meet(10, a, b, true));
        } else {
            scene.refuses(STATE, t -> t.meet(10, a, b, true));
        }
    }

    private static void builders() {
        for (int builder = 0; builder < 4; builder++) {
            int b = builder;
            Scene shut = allEmpty();
            shut.refuses(STATE, t -> t.build(b, 0, 0, 0));
            shut.refuses(STATE, t -> t.look(b, 0));
            shut.refuses(STATE, t -> t.freeze(b, 10));
            Scene opened = shut.with(t -> t.open(b, SET));
            opened.goesWell(t -> t.build(b, 0, 0, 0));
            opened.refuses(STATE, t -> t.open(b, SET));
            opened.refuses(STATE, t -> t.open(b, SEQUENCE));
            Scene again = opened.with(t -> t.freeze(b, 10));
            again.refuses(STATE, t -> t.build(b, 0, 0, 0));
            again.refuses(STATE, t -> t.look(b, 0));
            again.refuses(STATE, t -> t.freeze(b, 10));
            again.goesWell(t -> t.open(b, SET));
            for (int other = 0; other < 4; other++) {
                int c = other;
                if (b != c) {
                    opened.refuses(STATE, t -> t.freeze(c, 10));
                    opened.goesWell(t -> t.open(c, SET));
                }
            }
        }
    }

    // ---------------------------------------------------------------- which of two things

    private static void stateBeforeRest() {
        Scene scene = allKinds().leaving(0);
        scene.refuses(STATE, t -> t.set(10, HOLDS_NONE, -1, 0));
        scene.refuses(STATE, t -> t.set(10, QUEUE, 99, 0));
        scene.refuses(STATE, t -> t.at(QUEUE, 99));
        scene.refuses(STATE, t -> t.drop(10, QUEUE, 99, true));
        scene.refuses(STATE, t -> t.find(SEQUENCE, 99));
        scene.refuses(STATE, t -> t.near(MAP, 0, 0));
        scene.refuses(STATE, t -> t.map(10, SET, 4, 0));
        scene.refuses(STATE, t -> t.filter(10, MAP, 3, 0));
        scene.refuses(STATE, t -> t.range(10, MAP, 0, 9));
        scene.refuses(STATE, t -> t.join(10, SEQUENCE, QUEUE));
        scene.refuses(STATE, t -> t.same(SEQUENCE, QUEUE));
        scene.refuses(STATE, t -> t.meet(10, SET, MAP, true));
        scene.refuses(STATE, t -> t.list(10, SEQUENCE, 1000));
        scene.refuses(STATE, t -> t.turn(10, QUEUE));
        scene.refuses(STATE, t -> t.build(3, 1, 99, 0));
        scene.refuses(STATE, t -> t.look(3, 99));
        allEmpty().refuses(STATE, t -> t.pop(10, MAP));
        allEmpty().refuses(STATE, t -> t.front(SEQUENCE));
        Scene full = scene().thousand(SEQUENCE).holding(MAP, MAP);
        full.refuses(STATE, t -> t.add(10, MAP, 1));
        full.refuses(STATE, t -> t.put(10, SEQUENCE, 1, 1));
        full.refuses(STATE, t -> t.join(10, SEQUENCE, MAP));
    }

    private static void fullLast() {
        Scene scene = allKinds().leaving(2);
        scene.refuses(FULL, t -> t.map(10, SEQUENCE, 0, 0));
        scene.refuses(DIVISION, t -> t.map(10, SEQUENCE, 4, 0));
        scene.refuses(DIVISION, t -> t.map(10, SEQUENCE, 6, 0));
        scene.refuses(FULL, t -> t.filter(10, SEQUENCE, 4, 0));
        scene.refuses(DIVISION, t -> t.filter(10, SEQUENCE, 3, 0));
        scene.refuses(FULL, t -> t.filter(10, SET, 4, 0));
        scene.refuses(DIVISION, t -> t.filter(10, SET, 3, 0));
        // Only the last ELEMENT can't be divided by.
        scene().holding(0, SEQUENCE, 1, 2, 0).leaving(0).refuses(DIVISION, t -> t.map(10, 0, 5, 6));
        Scene noMoves = allEmpty().leaving(0);
        noMoves.refuses(NONE, t -> t.pop(10, STREAM));
        noMoves.refuses(NONE, t -> t.at(STREAM, 0));
        noMoves.refuses(NONE, t -> t.at(STREAM, 20001));
        Scene alike = scene(2).with(t -> t.make(0, SET), t -> t.open(0, 0));
        for (int i = 0; i < 16; i++) {
            int key = i;
            alike = alike.with(t -> t.build(0, 0, key, 0));
        }
        alike.refuses(UNSUPPORTED, t -> t.build(0, 1, 99, 0));
        alike.refuses(FULL, t -> t.build(0, 0, 99, 0));
    }

    private static void fullLastOfDepth() {
        Scene deep = scene().numbers(0).times(100, t -> t.map(0, 0, 0, 1));
        // The first ELEMENT is worked out at once, so its CALL has begun before the DEPTH is FULL.
        deep.refusesCounting(1, 0, FULL, t -> t.map(1, 0, 0, 1));
        deep.refusesCounting(1, 0, DIVISION, t -> t.map(1, 0, 4, 0));
        deep.refusesCounting(1, 0, FULL, t -> t.filter(1, 0, 4, 1));
        deep.refusesCounting(1, 0, DIVISION, t -> t.filter(1, 0, 3, 0));
        deep.refuses(FULL, t -> t.take(1, 0, 1));
        deep.refuses(FULL, t -> t.join(1, 0, 0));
        Scene empty = scene().holding(0, STREAM).times(100, t -> t.map(0, 0, 4, 0));
        empty.refuses(FULL, t -> t.map(1, 0, 4, 0));
        empty.refuses(FULL, t -> t.filter(1, 0, 3, 0));
    }

    private static void fullLastOfList() {
        // 6, then a division by 0.
        Scene divided = scene().holding(0, STREAM, 1, 0, 2).with(t -> t.map(0, 0, 5, 6)).leaving(10);
        divided.refusesCounting(1, 2, DIVISION, t -> t.list(1, 0, 1000));
        // All CELLS that are needed are worked out already.
        divided.refuses(FULL, t -> t.list(1, 22, 11));
        // Ten CELLS are worked out first, and take what is left; then the list finds no MOVES for itself.
        Scene numbers = scene().numbers(0).leaving(10);
        numbers.refusesCounting(10, 10, FULL, t -> t.list(1, 0, 11));
        numbers.refusesCounting(10, 10, FULL, t -> t.list(1, 0, 1000));
        numbers.refusesCounting(5, 5, FULL, t -> t.list(1, 0, 6));
        // Five of the list and four CELLS leave one MOVE.
        numbers.with(t -> t.list(1, 0, 5)).due(19999, t -> t.count(MOVES));
    }

    private static void otherMoves() {
        Scene scene = scene().holding(0, SEQUENCE, 2, 1, 0).holding(1, SET, 2, 1, 0);
        scene.refuses(DIVISION, t -> t.map(2, 0, 5, 4));
        scene.refuses(DIVISION, t -> t.map(0, 0, 5, 4));
        scene.refuses(DIVISION, t -> t.filter(0, 0, 3, 0));
        scene.refuses(DIVISION, t -> t.filter(1, 1, 3, 0));
        scene().grown(0, SEQUENCE, 501).refuses(FULL, t -> t.join(1, 0, 0));
        scene().grown(0, QUEUE, 501).refuses(FULL, t -> t.join(0, 0, 0));
        Scene stream = scene().holding(0, STREAM, 3, 2, 0).with(t -> t.map(1, 0, 5, 6));
        // Of the list's own MOVES none is counted.
        stream.refusesCounting(2, 4, DIVISION, t -> t.list(2, 1, 3));
        stream.refusesCounting(2, 4, DIVISION, t -> t.list(1, 1, 3));
    }

    /** A slot that is only set may hold anything, or none. */
    private static void slotThatIsSet() {
        for (Row row : face()) {
            boolean sets = row.read == 1 && row.ranges[0] == Range.SLOT;
            for (int kind = SEQUENCE; sets && kind <= STREAM; kind++) {
                for (int before = NO_KIND; before <= STREAM; before++) {
                    boolean told = row.kinds.indexOf('0' + kind) >= 0;
                    int[] n = row.fineBut(row.read, kind);
                    n[0] = before == NO_KIND ? 10 : before;
                    if (told) {
                        allKinds().goesWell(t -> row.body.on(t, n));
                    }
                }
            }
        }
    }
}
