import java.util.function.Supplier;

/** Each refused call: the exception that the document names, the first one told of several, and all is as it was. */
public final class RefusedTest {
    private static final Check CHECK = new Check();
    private static final Class<IndexOutOfBoundsException> NO_INDEX = IndexOutOfBoundsException.class;
    private static final Class<IllegalArgumentException> WRONG = IllegalArgumentException.class;
    private static final Class<IllegalStateException> NOT_GOOD = IllegalStateException.class;
    private static final Class<UnsupportedOperationException> FULL = UnsupportedOperationException.class;
    private static final String FIRST = "Of several exceptions the first one told is thrown.";
    private static final int LOW = Integer.MIN_VALUE;
    private static final int HIGH = Integer.MAX_VALUE;

    private interface Asked {
        void call(SheetNeeds x);
    }

    public static void main(String[] args) {
        promises2And3();
        promises4To6();
        promises8To11();
        promise12();
        promise13();
        promises14To20();
        firstOneTold();
        CHECK.end();
    }

    /** Cells 0 good, 1 failing, 2 barred, 3 in a circle and not in the copy; a written copy; two things to undo. */
    private static SheetNeeds busy() {
        SheetNeeds x = Sheets.withSources(6, 0);
        x.cell(0, -1, -1);
        x.cell(3, 0, -2);
        x.cell(0, 1, 0);
        x.person();
        x.cell(0, 3, -1);
        x.write(0, 1, 0, 0, 0);
        x.change(0, 7);
        x.run();
        return x;
    }

    private static SheetNeeds fullOfSources() {
        SheetNeeds x = Sheets.of(60, 1, 0);
        x.change(59, 7);
        return x;
    }

    private static SheetNeeds fullOfCells() {
        SheetNeeds x = Sheets.of(1, 150, 0);
        x.run();
        return x;
    }

    private static SheetNeeds fullOfPeople() {
        SheetNeeds x = Sheets.of(1, 2, 4);
        x.write(3, 1, 2, 0, 0);
        x.change(0, 7);
        x.run();
        return x;
    }

    /** The call throws what is due, and the sheet answers from then on like one on which it was not made. */
    private static void refused(Class<? extends RuntimeException> due, Supplier<SheetNeeds> made, Asked asked) {
        SheetNeeds x = made.get();
        CHECK.isThrown("the call", due, () -> asked.call(x));
        CHECK.isText("all behind it", Look.through(x), Look.through(made.get()));
    }

    private static void refused(Class<? extends RuntimeException> due, Asked... asked) {
        for (Asked one : asked) {
            refused(due, RefusedTest::busy, one);
        }
    }

    private static void promises2And3() {
        CHECK.sentence("promise 2", "UnsupportedOperationException, when there are sixty.",
                RefusedTest::aSourceTooMany);
        CHECK.sentence("promise 3, op", "IllegalArgumentException, when there is no such op", () ->
                refused(WRONG, x -> x.cell(6, 0, 0), x -> x.cell(-1, 0, 0), x -> x.cell(LOW, 0, 0),
                        x -> x.cell(HIGH, 0, 0)));
        CHECK.sentence("promise 3, a", "an operand is neither a source, nor a cell that is there, nor this one", () ->
                refused(WRONG, x -> x.cell(0, -3, 0), x -> x.cell(0, 5, 0), x -> x.cell(0, LOW, 0),
                        x -> x.cell(0, HIGH, 0)));
        CHECK.sentence("promise 3, b", "an operand is neither a source, nor a cell that is there, nor this one", () ->
                refused(WRONG, x -> x.cell(0, 0, -3), x -> x.cell(0, 0, 5), x -> x.cell(0, 0, LOW),
                        x -> x.cell(0, 0, HIGH)));
        CHECK.sentence("promise 3", "UnsupportedOperationException, when there are 150.", RefusedTest::aCellTooMany);
    }

    private static void aSourceTooMany() {
        SheetNeeds x = fullOfSources();
        String before = Look.at(x);
        for (long v : new long[] {0, 5, Long.MIN_VALUE, Long.MAX_VALUE}) {
            CHECK.isThrown("source(" + v + ")", FULL, () -> x.source(v));
        }
        CHECK.isText("all behind them", Look.at(x), before);
        CHECK.is("the change can be undone still", x.undo(), true);
        for (int i = 0; i < 60; i++) {
            CHECK.is("source " + i, x.change(i, 0), i + 1);
        }
    }

    private static void aCellTooMany() {
        SheetNeeds x = fullOfCells();
        CHECK.isThrown("one that uses a source", FULL, () -> x.cell(0, -1, -1));
        CHECK.isThrown("one that uses the first cell", FULL, () -> x.cell(5, 0, 0));
        CHECK.isThrown("one that uses the last cell", FULL, () -> x.cell(5, 149, 149));
        long[] due = {1, 150, 0, 1, 150, 150, 150, 0, 0, 0};
        for (int what = 0; what < due.length; what++) {
            CHECK.is("count(" + what + ")", x.count(what), due[what]);
        }
        CHECK.isNoIndex("state(150)", () -> x.state(150));
        CHECK.is("the run can be undone still", x.undo(), true);
        CHECK.is("it was the only thing", x.undo(), false);
    }

    private static void promises4To6() {
        CHECK.sentence("promise 4", "IndexOutOfBoundsException, when there is none.", () ->
                refused(NO_INDEX, x -> x.change(2, 1), x -> x.change(-1, 1), x -> x.change(LOW, 1),
                        x -> x.change(HIGH, 1)));
        CHECK.sentence("promise 5, cell", "IndexOutOfBoundsException, when there is none;", () ->
                refused(NO_INDEX, x -> x.edit(4, 0, 0, 0), x -> x.edit(-1, 0, 0, 0),
                        x -> x.edit(LOW, 0, 0, 0), x -> x.edit(HIGH, 0, 0, 0)));
        CHECK.sentence("promise 5, op", "IllegalArgumentException, when there is no such op, source or cell.", () ->
                refused(WRONG, x -> x.edit(0, 6, 0, 0), x -> x.edit(0, -1, 0, 0),
                        x -> x.edit(0, LOW, 0, 0), x -> x.edit(0, HIGH, 0, 0)));
        CHECK.sentence("promise 5, source", "IllegalArgumentException, when there is no such op, source or cell.", () ->
                refused(WRONG, x -> x.edit(0, 0, -3, 0), x -> x.edit(0, 0, 0, -3),
                        x -> x.edit(0, 0, LOW, 0), x -> x.edit(0, 0, 0, LOW)));
        CHECK.sentence("promise 5, cell as operand",
                "IllegalArgumentException, when there is no such op, source or cell.", () ->
                refused(WRONG, x -> x.edit(0, 0, 4, 0), x -> x.edit(0, 0, 0, 4),
                        x -> x.edit(0, 0, HIGH, 0), x -> x.edit(0, 0, 0, HIGH)));
        CHECK.sentence("promise 6", "IndexOutOfBoundsException, when there is none.", () ->
                refused(NO_INDEX, x -> x.fail(4, true), x -> x.fail(-1, true), x -> x.fail(4, false),
                        x -> x.fail(LOW, true), x -> x.fail(HIGH, true)));
    }

    private static void promises8To11() {
        CHECK.sentence("promise 8, cell", "IndexOutOfBoundsException, when there is none;", () ->
                refused(NO_INDEX, x -> x.at(4), x -> x.at(-1), x -> x.at(LOW), x -> x.at(HIGH)));
        CHECK.sentence("promise 8, a failing one", "IllegalStateException, when it is not good.", () ->
                refused(NOT_GOOD, x -> x.at(1)));
        CHECK.sentence("promise 8, a barred one", "IllegalStateException, when it is not good.", () ->
                refused(NOT_GOOD, x -> x.at(2)));
        CHECK.sentence("promise 8, one in a circle", "IllegalStateException, when it is not good.", () ->
                refused(NOT_GOOD, x -> x.at(3)));
        CHECK.sentence("promise 8, a new one", "IllegalStateException, when it is not good.", () ->
                refused(NOT_GOOD, () -> Sheets.of(1, 2, 1), x -> x.at(0)));
        CHECK.sentence("promise 9", "IndexOutOfBoundsException, when there is none.", () ->
                refused(NO_INDEX, x -> x.state(4), x -> x.state(-1), x -> x.state(LOW), x -> x.state(HIGH)));
        CHECK.sentence("promise 10", "IndexOutOfBoundsException, when there is none", () ->
                refused(NO_INDEX, x -> x.worked(2), x -> x.worked(-1), x -> x.worked(LOW), x -> x.worked(HIGH)));
        CHECK.sentence("promise 11, cell", "IndexOutOfBoundsException, when there is no such cell or what.", () ->
                refused(NO_INDEX, x -> x.formula(4, 0), x -> x.formula(-1, 0), x -> x.formula(LOW, 0),
                        x -> x.formula(HIGH, 0)));
        CHECK.sentence("promise 11, what", "IndexOutOfBoundsException, when there is no such cell or what.", () ->
                refused(NO_INDEX, x -> x.formula(0, 3), x -> x.formula(0, -1), x -> x.formula(0, LOW),
                        x -> x.formula(0, HIGH)));
    }

    private static void promise12() {
        CHECK.sentence("promise 12", "UnsupportedOperationException, when there are four.", () ->
                refused(FULL, RefusedTest::fullOfPeople, x -> x.person()));
    }

    private static void promise13() {
        CHECK.sentence("promise 13, person", "IndexOutOfBoundsException, when there is no such person", () ->
                refused(NO_INDEX, x -> x.write(1, 0, 0, 0, 0), x -> x.write(-1, 0, 0, 0, 0),
                        x -> x.write(LOW, 0, 0, 0, 0), x -> x.write(HIGH, 0, 0, 0, 0)));
        CHECK.sentence("promise 13, cell", "or the copy has no such cell;", () ->
                refused(NO_INDEX, x -> x.write(0, 3, 0, 0, 0), x -> x.write(0, 4, 0, 0, 0),
                        x -> x.write(0, -1, 0, 0, 0),
                        x -> x.write(0, LOW, 0, 0, 0), x -> x.write(0, HIGH, 0, 0, 0)));
        CHECK.sentence("promise 13, op", "IllegalArgumentException, when there is no such op", () ->
                refused(WRONG, x -> x.write(0, 0, 6, 0, 0), x -> x.write(0, 0, -1, 0, 0),
                        x -> x.write(0, 0, LOW, 0, 0), x -> x.write(0, 0, HIGH, 0, 0)));
        CHECK.sentence("promise 13, source", "IllegalArgumentException, when there is no such op, source", () ->
                refused(WRONG, x -> x.write(0, 0, 0, -3, 0), x -> x.write(0, 0, 0, 0, -3),
                        x -> x.write(0, 0, 0, LOW, 0), x -> x.write(0, 0, 0, 0, LOW)));
        CHECK.sentence("promise 13, cell as operand", "or cell of the copy.", () ->
                refused(WRONG, x -> x.write(0, 0, 0, 3, 0), x -> x.write(0, 0, 0, 0, 3),
                        x -> x.write(0, 0, 0, HIGH, 0), x -> x.write(0, 0, 0, 0, HIGH)));
    }

    private static void promises14To20() {
        CHECK.sentence("promise 14", "IndexOutOfBoundsException, when there is no such person.", () ->
                refused(NO_INDEX, x -> x.join(1), x -> x.join(-1), x -> x.join(LOW), x -> x.join(HIGH)));
        CHECK.sentence("promise 14, clashes", "(nothing is done then, if any do)", RefusedTest::aJoinThatClashes);
        CHECK.sentence("promise 15", "IndexOutOfBoundsException, when there is no such person.", () ->
                refused(NO_INDEX, x -> x.edits(1), x -> x.edits(-1), x -> x.edits(LOW), x -> x.edits(HIGH)));
        CHECK.sentence("promise 17, cell", "IndexOutOfBoundsException, when there is no such cell", () ->
                refused(NO_INDEX, x -> x.uses(4, 0), x -> x.uses(-1, 0), x -> x.uses(LOW, 0), x -> x.uses(HIGH, 0)));
        CHECK.sentence("promise 17, k", "or none such.", () ->
                refused(NO_INDEX, x -> x.uses(0, 1), x -> x.uses(0, -1), x -> x.uses(0, LOW), x -> x.uses(0, HIGH)));
        CHECK.sentence("promise 19", "IndexOutOfBoundsException, when there is none.", () ->
                refused(NO_INDEX, x -> x.circleAt(1), x -> x.circleAt(-1), x -> x.circleAt(LOW),
                        x -> x.circleAt(HIGH)));
        CHECK.sentence("promise 20", "NONE for another what.", () -> {
            SheetNeeds x = busy();
            for (int what : new int[] {10, -1, LOW, HIGH}) {
                CHECK.is("count(" + what + ")", x.count(what), -1);
            }
            CHECK.isText("all behind them", Look.through(x), Look.through(busy()));
        });
    }

    /** The copy has three edits, of which the sheet has another formula of one. */
    private static SheetNeeds clashing() {
        SheetNeeds x = Sheets.of(2, 3, 1);
        x.write(0, 0, 1, -1, -2);
        x.write(0, 1, 1, 0, 0);
        x.write(0, 2, 1, 0, 1);
        x.edit(1, 2, 0, 0);
        x.run();
        return x;
    }

    private static void aJoinThatClashes() {
        SheetNeeds x = clashing();
        CHECK.is("join(0)", x.join(0), 1);
        CHECK.is("join(0) again", x.join(0), 1);
        CHECK.isText("all behind them", Look.through(x), Look.through(clashing()));
    }

    private static void firstOneTold() {
        CHECK.sentence("promise 3, op and full", FIRST,
                () -> firstOfFullSheet(x -> x.cell(6, -1, -1), x -> x.cell(-1, 0, 0)));
        CHECK.sentence("promise 3, operand and full", FIRST, () -> firstOfFullSheet(
                x -> x.cell(0, -2, -1), x -> x.cell(0, -1, -2), x -> x.cell(0, 151, 0), x -> x.cell(0, 0, HIGH)));
        CHECK.sentence("promise 5, cell and op", FIRST, () ->
                refused(NO_INDEX, x -> x.edit(4, 6, 0, 0), x -> x.edit(-1, -1, 0, 0), x -> x.edit(LOW, HIGH, 0, 0)));
        CHECK.sentence("promise 5, cell and operand", FIRST, () ->
                refused(NO_INDEX, x -> x.edit(4, 0, 4, 4), x -> x.edit(-1, 0, -3, 0), x -> x.edit(4, 0, 0, -3)));
        CHECK.sentence("promise 8, no cell and not good", FIRST, () ->
                refused(NO_INDEX, () -> Sheets.of(1, 2, 1), x -> x.at(2)));
        CHECK.sentence("promise 13, person and op", FIRST, () ->
                refused(NO_INDEX, x -> x.write(1, 0, 6, 0, 0), x -> x.write(-1, 0, -1, 0, 0)));
        CHECK.sentence("promise 13, person and operand", FIRST, () ->
                refused(NO_INDEX, x -> x.write(1, 0, 0, 4, 0), x -> x.write(-1, 0, 0, 0, -3)));
        CHECK.sentence("promise 13, cell and op", FIRST, () ->
                refused(NO_INDEX, x -> x.write(0, 3, 6, 0, 0), x -> x.write(0, -1, -1, 0, 0)));
        CHECK.sentence("promise 13, cell and operand", FIRST, () ->
                refused(NO_INDEX, x -> x.write(0, 3, 0, 3, 3), x -> x.write(0, -1, 0, -3, -3)));
        CHECK.sentence("promise 13, all of them", FIRST, () ->
                refused(NO_INDEX, x -> x.write(HIGH, HIGH, HIGH, HIGH, HIGH), x -> x.write(LOW, LOW, LOW, LOW, LOW)));
    }

    private static void firstOfFullSheet(Asked... asked) {
        SheetNeeds x = fullOfCells();
        for (Asked one : asked) {
            CHECK.isThrown("the call", WRONG, () -> one.call(x));
        }
        CHECK.is("count(1)", x.count(1), 150);
        CHECK.is("the run can be undone still", x.undo(), true);
    }
}
