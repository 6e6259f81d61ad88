/** Too small and too large: every number that a call takes, on an empty, a small, a nearly full and a full sheet. */
public final class RangeTest {
    private static final Check CHECK = new Check();

    private static final int[] VALUES = {
        Integer.MIN_VALUE, Integer.MIN_VALUE + 1, -65537, -151, -150, -149, -62, -61, -60, -59, -7, -6, -5, -4, -3, -2,
        -1, 0, 1, 2, 3, 4, 5, 6, 7, 9, 10, 11, 15, 16, 17, 58, 59, 60, 61, 148, 149, 150, 151, 255, 256, 511, 512,
        65535, 65536, 1 << 30, Integer.MAX_VALUE - 1, Integer.MAX_VALUE,
    };

    /** A sheet with so many sources, cells and people. */
    private record Kind(int sources, int cells, int people) {
        SheetNeeds make() {
            return Sheets.of(sources, cells, people);
        }
    }

    private static final Kind EMPTY = new Kind(0, 0, 0);
    private static final Kind ONE = new Kind(1, 1, 1);
    private static final Kind SMALL = new Kind(2, 3, 2);
    private static final Kind NEARLY_FULL = new Kind(59, 149, 3);
    private static final Kind FULL = new Kind(60, 150, 4);
    private static final Kind[] ALL = {EMPTY, ONE, SMALL, NEARLY_FULL, FULL};
    private static final Kind[] WITH_CELLS = {ONE, SMALL, NEARLY_FULL, FULL};
    private static final Kind[] NOT_FULL = {EMPTY, ONE, SMALL, NEARLY_FULL};

    private interface Bound {
        int of(Kind kind);
    }

    private interface Asked {
        void call(SheetNeeds x, Kind kind, int value);
    }

    public static void main(String[] args) {
        promise3();
        promise4();
        promise5();
        promise6();
        promises8To10();
        promise11();
        promise13();
        promises14And15();
        promise17();
        promise19();
        promise20();
        CHECK.end();
    }

    /** A call answers from the low bound to below the high one, and throws outside of them. */
    private static void range(Kind[] kinds, Bound low, Bound high, Class<? extends RuntimeException> outside,
            Asked asked) {
        for (Kind kind : kinds) {
            for (int value : VALUES) {
                SheetNeeds x = kind.make();
                String call = value + " with " + kind;
                if (value >= low.of(kind) && value < high.of(kind)) {
                    CHECK.isAnswered(call, () -> asked.call(x, kind, value));
                } else {
                    CHECK.isThrown(call, outside, () -> asked.call(x, kind, value));
                }
            }
        }
    }

    private static void index(Kind[] kinds, Bound high, Asked asked) {
        range(kinds, k -> 0, high, IndexOutOfBoundsException.class, asked);
    }

    private static void argument(Kind[] kinds, Bound low, Bound high, Asked asked) {
        range(kinds, low, high, IllegalArgumentException.class, asked);
    }

    private static void promise3() {
        CHECK.sentence("promise 3, op", "when there is no such op", () ->
                argument(NOT_FULL, k -> 0, k -> 6, (x, k, v) -> x.cell(v, k.cells, k.cells)));
        CHECK.sentence("promise 3, a", "an operand is neither a source, nor a cell that is there, nor this one", () ->
                argument(NOT_FULL, k -> -k.sources, k -> k.cells + 1, (x, k, v) -> x.cell(0, v, k.cells)));
        CHECK.sentence("promise 3, b", "an operand is neither a source, nor a cell that is there, nor this one", () ->
                argument(NOT_FULL, k -> -k.sources, k -> k.cells + 1, (x, k, v) -> x.cell(0, k.cells, v)));
    }

    private static void promise4() {
        CHECK.sentence("promise 4, source", "IndexOutOfBoundsException, when there is none.", () ->
                index(ALL, k -> k.sources, (x, k, v) -> x.change(v, 5)));
    }

    private static void promise5() {
        CHECK.sentence("promise 5, cell", "IndexOutOfBoundsException, when there is none;", () ->
                index(ALL, k -> k.cells, (x, k, v) -> x.edit(v, 0, -1, -1)));
        CHECK.sentence("promise 5, op", "IllegalArgumentException, when there is no such op, source or cell.", () ->
                argument(WITH_CELLS, k -> 0, k -> 6, (x, k, v) -> x.edit(0, v, -1, -1)));
        CHECK.sentence("promise 5, a", "IllegalArgumentException, when there is no such op, source or cell.", () ->
                argument(WITH_CELLS, k -> -k.sources, k -> k.cells, (x, k, v) -> x.edit(0, 0, v, -1)));
        CHECK.sentence("promise 5, b", "IllegalArgumentException, when there is no such op, source or cell.", () ->
                argument(WITH_CELLS, k -> -k.sources, k -> k.cells, (x, k, v) -> x.edit(0, 0, -1, v)));
    }

    private static void promise6() {
        CHECK.sentence("promise 6, cell, on", "IndexOutOfBoundsException, when there is none.", () ->
                index(ALL, k -> k.cells, (x, k, v) -> x.fail(v, true)));
        CHECK.sentence("promise 6, cell, off", "IndexOutOfBoundsException, when there is none.", () ->
                index(ALL, k -> k.cells, (x, k, v) -> x.fail(v, false)));
    }

    private static void promises8To10() {
        CHECK.sentence("promise 8, cell", "IndexOutOfBoundsException, when there is none;", () ->
                index(ALL, k -> k.cells, (x, k, v) -> {
                    x.run();
                    x.at(v);
                }));
        CHECK.sentence("promise 9, cell", "IndexOutOfBoundsException, when there is none.", () ->
                index(ALL, k -> k.cells, (x, k, v) -> x.state(v)));
        CHECK.sentence("promise 10, k", "IndexOutOfBoundsException, when there is none", () ->
                index(ALL, k -> k.cells, (x, k, v) -> {
                    x.run();
                    x.worked(v);
                }));
        CHECK.sentence("promise 10, k without a run", "IndexOutOfBoundsException, when there is none", () ->
                index(ALL, k -> 0, (x, k, v) -> x.worked(v)));
    }

    private static void promise11() {
        CHECK.sentence("promise 11, cell", "when there is no such cell or what.", () ->
                index(ALL, k -> k.cells, (x, k, v) -> x.formula(v, 2)));
        CHECK.sentence("promise 11, what", "when there is no such cell or what.", () ->
                index(WITH_CELLS, k -> 3, (x, k, v) -> x.formula(0, v)));
    }

    private static void promise13() {
        CHECK.sentence("promise 13, person", "when there is no such person, or the copy has no such cell;", () ->
                index(WITH_CELLS, k -> k.people, (x, k, v) -> x.write(v, 0, 0, -1, -1)));
        CHECK.sentence("promise 13, cell", "when there is no such person, or the copy has no such cell;", () ->
                index(WITH_CELLS, k -> k.cells, (x, k, v) -> x.write(0, v, 0, -1, -1)));
        CHECK.sentence("promise 13, cell of a copy older than a cell", "or the copy has no such cell;", () ->
                index(new Kind[] {ONE, SMALL, NEARLY_FULL}, k -> k.cells, (x, k, v) -> {
                    x.cell(0, -1, -1);
                    x.write(0, v, 0, -1, -1);
                }));
        CHECK.sentence("promise 13, op",
                "IllegalArgumentException, when there is no such op, source, or cell of the copy.", () ->
                argument(WITH_CELLS, k -> 0, k -> 6, (x, k, v) -> x.write(0, 0, v, -1, -1)));
        CHECK.sentence("promise 13, a",
                "IllegalArgumentException, when there is no such op, source, or cell of the copy.", () ->
                argument(WITH_CELLS, k -> -k.sources, k -> k.cells, (x, k, v) -> x.write(0, 0, 0, v, -1)));
        CHECK.sentence("promise 13, b",
                "IllegalArgumentException, when there is no such op, source, or cell of the copy.", () ->
                argument(WITH_CELLS, k -> -k.sources, k -> k.cells, (x, k, v) -> x.write(0, 0, 0, -1, v)));
        CHECK.sentence("promise 13, a, in a copy older than a cell", "or cell of the copy.", () ->
                argument(new Kind[] {ONE, SMALL, NEARLY_FULL}, k -> -k.sources, k -> k.cells, (x, k, v) -> {
                    x.cell(0, -1, -1);
                    x.write(0, 0, 0, v, -1);
                }));
        CHECK.sentence("promise 13, b, in a copy older than a cell", "or cell of the copy.", () ->
                argument(new Kind[] {ONE, SMALL, NEARLY_FULL}, k -> -k.sources, k -> k.cells, (x, k, v) -> {
                    x.cell(0, -1, -1);
                    x.write(0, 0, 0, -1, v);
                }));
    }

    private static void promises14And15() {
        CHECK.sentence("promise 14, person", "IndexOutOfBoundsException, when there is no such person.", () ->
                index(ALL, k -> k.people, (x, k, v) -> x.join(v)));
        CHECK.sentence("promise 15, person", "IndexOutOfBoundsException, when there is no such person.", () ->
                index(ALL, k -> k.people, (x, k, v) -> x.edits(v)));
    }

    private static void promise17() {
        CHECK.sentence("promise 17, cell", "IndexOutOfBoundsException, when there is no such cell, or none such.", () ->
                index(ALL, k -> k.cells, (x, k, v) -> x.uses(v, 0)));
        CHECK.sentence("promise 17, k of the last cell", "when there is no such cell, or none such.", () ->
                index(WITH_CELLS, k -> k.sources, (x, k, v) -> x.uses(k.cells - 1, v)));
        CHECK.sentence("promise 17, k of the first cell", "when there is no such cell, or none such.", () ->
                index(WITH_CELLS, k -> 1, (x, k, v) -> x.uses(0, v)));
    }

    private static void promise19() {
        CHECK.sentence("promise 19, k of a circle of all cells", "IndexOutOfBoundsException, when there is none.", () ->
                index(WITH_CELLS, k -> k.cells, (x, k, v) -> {
                    x.edit(0, 0, k.cells - 1, -1);
                    x.circleAt(v);
                }));
        CHECK.sentence("promise 19, k without a circle", "IndexOutOfBoundsException, when there is none.", () ->
                index(ALL, k -> 0, (x, k, v) -> x.circleAt(v)));
    }

    private static void promise20() {
        CHECK.sentence("promise 20, what", "NONE for another what.", () -> {
            for (Kind kind : ALL) {
                SheetNeeds x = kind.make();
                for (int what : VALUES) {
                    CHECK.is("count(" + what + ") is NONE", x.count(what) == SheetNeeds.NONE, what < 0 || what > 9);
                }
            }
        });
    }
}
