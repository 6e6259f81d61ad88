/** Empty: a new object, a copy without cells, a run, a join or an undo with nothing to do. */
public final class EmptySheetTest {
    private static final Check CHECK = new Check();
    private static final String NOTHING = "Nothing there.";

    public static void main(String[] args) {
        CHECK.sentence("promise 1, count", NOTHING, EmptySheetTest::countsAreZero);
        CHECK.sentence("promise 1, each call with a number", NOTHING, EmptySheetTest::noNumberIsThere);
        CHECK.sentence("promise 1, each object by itself", NOTHING, EmptySheetTest::objectsShareNothing);
        CHECK.sentence("promise 2", "A source more: its number.", EmptySheetTest::firstSource);
        CHECK.sentence("promise 3", "nor a cell that is there, nor this one", EmptySheetTest::firstCell);
        CHECK.sentence("promise 7", "A run: how many cells were worked.", EmptySheetTest::runOfNothing);
        CHECK.sentence("promise 10, before a run", "when there is none", EmptySheetTest::nothingWorkedYet);
        CHECK.sentence("promise 12", "with a copy of the sheet as it is", EmptySheetTest::personOfAnEmptySheet);
        CHECK.sentence("promise 13", "or the copy has no such cell;", EmptySheetTest::writeInAnEmptyCopy);
        CHECK.sentence("terms, JOINING", "(cells that are new in the sheet come into it, too)",
                EmptySheetTest::joinOfAnEmptyCopy);
        CHECK.sentence("promise 15", "How many edits a person has.", EmptySheetTest::noEdits);
        CHECK.sentence("promise 16", "Undoes the latest thing: whether there was one.", EmptySheetTest::nothingToUndo);
        CHECK.sentence("promise 17", "or none such.", EmptySheetTest::noSourceUsed);
        CHECK.sentence("promise 18", "0 without.", EmptySheetTest::noCircle);
        CHECK.sentence("promise 19", "IndexOutOfBoundsException, when there is none.", EmptySheetTest::noCellOfACircle);
        CHECK.end();
    }

    private static void countsAreZero() {
        SheetNeeds x = new SheetNeeds();
        for (int what = 0; what <= 9; what++) {
            CHECK.is("count(" + what + ")", x.count(what), 0);
        }
    }

    private static void noNumberIsThere() {
        for (int n : new int[] {0, -1, 1, Integer.MIN_VALUE, Integer.MAX_VALUE}) {
            SheetNeeds x = new SheetNeeds();
            CHECK.isNoIndex("change(" + n + ", 0)", () -> x.change(n, 0));
            CHECK.isNoIndex("edit(" + n + ", 0, 0, 0)", () -> x.edit(n, 0, 0, 0));
            CHECK.isNoIndex("fail(" + n + ", true)", () -> x.fail(n, true));
            CHECK.isNoIndex("at(" + n + ")", () -> x.at(n));
            CHECK.isNoIndex("state(" + n + ")", () -> x.state(n));
            CHECK.isNoIndex("worked(" + n + ")", () -> x.worked(n));
            CHECK.isNoIndex("formula(" + n + ", 0)", () -> x.formula(n, 0));
            CHECK.isNoIndex("write(" + n + ", 0, 0, 0, 0)", () -> x.write(n, 0, 0, 0, 0));
            CHECK.isNoIndex("join(" + n + ")", () -> x.join(n));
            CHECK.isNoIndex("edits(" + n + ")", () -> x.edits(n));
            CHECK.isNoIndex("uses(" + n + ", 0)", () -> x.uses(n, 0));
            CHECK.isNoIndex("circleAt(" + n + ")", () -> x.circleAt(n));
            CHECK.isText("all behind them", Look.through(x), Look.through(new SheetNeeds()));
        }
    }

    private static void objectsShareNothing() {
        SheetNeeds used = Sheets.of(2, 3, 1);
        used.fail(1, true);
        used.write(0, 0, 1, -1, -2);
        used.run();
        CHECK.is("a new one behind that: sources", new SheetNeeds().count(0), 0);
        SheetNeeds x = new SheetNeeds();
        SheetNeeds other = Sheets.of(2, 3, 1);
        CHECK.isText("one that was made before another", Look.through(x), Look.through(new SheetNeeds()));
        CHECK.is("the other one is as it was", other.count(1), 3);
    }

    private static void firstSource() {
        CHECK.is("source(0)", new SheetNeeds().source(0), 0);
        CHECK.is("source(MIN_VALUE)", new SheetNeeds().source(Long.MIN_VALUE), 0);
    }

    private static void firstCell() {
        SheetNeeds x = new SheetNeeds();
        CHECK.isWrongArgument("source 0 is not there", () -> x.cell(0, -1, 0));
        CHECK.isWrongArgument("cell 1 is not there", () -> x.cell(0, 0, 1));
        CHECK.is("nothing came of those", x.count(1), 0);
        CHECK.is("this one alone is there", x.cell(0, 0, 0), 0);
        CHECK.is("it is in a circle", x.circle(), 1);
    }

    private static void runOfNothing() {
        SheetNeeds x = new SheetNeeds();
        CHECK.is("run()", x.run(), 0);
        CHECK.is("count(5)", x.count(5), 0);
        CHECK.isNoIndex("worked(0)", () -> x.worked(0));
        SheetNeeds y = Sheets.withSources(1, 2);
        CHECK.is("run() of sources alone", y.run(), 0);
        CHECK.is("it can be undone all the same", y.undo(), true);
    }

    private static void nothingWorkedYet() {
        SheetNeeds x = Sheets.of(1, 2, 0);
        CHECK.isNoIndex("worked(0)", () -> x.worked(0));
        CHECK.is("count(4)", x.count(4), 0);
    }

    private static void personOfAnEmptySheet() {
        SheetNeeds x = new SheetNeeds();
        CHECK.is("person()", x.person(), 0);
        CHECK.is("edits(0)", x.edits(0), 0);
        CHECK.is("count(2)", x.count(2), 1);
    }

    private static void writeInAnEmptyCopy() {
        SheetNeeds x = new SheetNeeds();
        x.person();
        CHECK.isNoIndex("write(0, 0, ..) without a cell", () -> x.write(0, 0, 0, 0, 0));
        x.source(1);
        x.cell(0, -1, -1);
        CHECK.isNoIndex("write(0, 0, ..) of a cell that came later", () -> x.write(0, 0, 0, -1, -1));
    }

    private static void joinOfAnEmptyCopy() {
        SheetNeeds x = new SheetNeeds();
        x.person();
        CHECK.is("join(0) without a cell", x.join(0), 0);
        x.source(1);
        x.cell(0, -1, -1);
        x.cell(1, 0, 0);
        CHECK.is("join(0) of the empty copy", x.join(0), 0);
        CHECK.is("the sheet stays", x.formula(1, 0), 1);
        CHECK.is("the copy has cell 0", x.write(0, 0, 0, -1, -1), false);
        CHECK.is("the copy has cell 1", x.write(0, 1, 1, 0, 0), false);
        CHECK.isNoIndex("the copy has no cell 2", () -> x.write(0, 2, 0, -1, -1));
    }

    private static void noEdits() {
        SheetNeeds x = Sheets.of(1, 2, 2);
        CHECK.is("edits(0)", x.edits(0), 0);
        CHECK.is("edits(1)", x.edits(1), 0);
    }

    private static void nothingToUndo() {
        SheetNeeds x = new SheetNeeds();
        CHECK.is("undo()", x.undo(), false);
        CHECK.is("undo() again", x.undo(), false);
        CHECK.is("count(3)", x.count(3), 0);
        x.run();
        CHECK.is("undo() of one thing", x.undo(), true);
        CHECK.is("undo() behind it", x.undo(), false);
        CHECK.is("count(3) behind it", x.count(3), 0);
    }

    private static void noSourceUsed() {
        SheetNeeds x = Sheets.withSources(1);
        x.cell(0, 0, 0);
        x.cell(0, 0, 0);
        CHECK.isNoIndex("uses(0, 0) of one that uses itself alone", () -> x.uses(0, 0));
        CHECK.isNoIndex("uses(1, 0) of one that uses that", () -> x.uses(1, 0));
    }

    private static void noCircle() {
        CHECK.is("circle() of nothing", new SheetNeeds().circle(), 0);
        CHECK.is("circle() of sources alone", Sheets.withSources(1).circle(), 0);
        CHECK.is("circle() of one cell", Sheets.of(1, 1, 0).circle(), 0);
        CHECK.is("circle() of a chain", Sheets.of(1, 150, 0).circle(), 0);
        SheetNeeds x = Sheets.plain(3);
        x.edit(0, 0, 1, 2);
        x.edit(1, 0, 2, 2);
        CHECK.is("circle() where two ways meet", x.circle(), 0);
    }

    private static void noCellOfACircle() {
        CHECK.isNoIndex("circleAt(0) of nothing", () -> new SheetNeeds().circleAt(0));
        CHECK.isNoIndex("circleAt(0) of a chain", () -> Sheets.of(1, 5, 0).circleAt(0));
        SheetNeeds x = Sheets.plain(2);
        x.edit(0, 0, 0, 0);
        x.circle();
        x.edit(0, 0, -1, -1);
        CHECK.isNoIndex("circleAt(0) of a circle that is gone", () -> x.circleAt(0));
    }
}
