/** Full: sixty sources, 150 cells, four people, sixteen things that can be undone and one more, 512 calls. */
public final class FullSheetTest {
    private static final Check CHECK = new Check();
    private static final String UP_TO_16 = "up to 16 of these can be undone, the latest first";

    public static void main(String[] args) {
        CHECK.sentence("what it is", "An object is used for at most 512 calls after it has been made",
                FullSheetTest::calls512);
        CHECK.sentence("terms, SOURCES", "SOURCES (up to 60) are numbers.", FullSheetTest::sixtySources);
        CHECK.sentence("promise 2", "UnsupportedOperationException, when there are sixty.", FullSheetTest::source61);
        CHECK.sentence("terms, OPERANDS", "source k (as -1 - k)", FullSheetTest::sourcesAsOperands);
        CHECK.sentence("terms, CELLS", "CELLS (up to 150) have an OP and two OPERANDS", FullSheetTest::cells150);
        CHECK.sentence("promise 3", "UnsupportedOperationException, when there are 150.", FullSheetTest::cell151);
        CHECK.sentence("promise 11, 150 cells", "Of a cell's formula the op (what 0) and the operands (1, 2).",
                FullSheetTest::formulasOf150);
        CHECK.sentence("promise 7, 150 cells", "A run: how many cells were worked.", FullSheetTest::runOf150);
        CHECK.sentence("terms, RUN, 150 cells", "an order in which operands are before those that use them",
                FullSheetTest::lastCellComesFirst);
        CHECK.sentence("promise 20, 150 cells of a state",
                "good ones (6), failing ones (7), barred ones (8), in circles (9)",
                FullSheetTest::allOfOneState);
        CHECK.sentence("promise 20, what 5", "in all runs (5)", FullSheetTest::workedInAllRuns);
        CHECK.sentence("terms, PEOPLE", "PEOPLE (up to 4): each has a COPY of all formulas", FullSheetTest::fourCopies);
        CHECK.sentence("promise 12", "UnsupportedOperationException, when there are four.", FullSheetTest::fifthPerson);
        CHECK.sentence("terms, JOINING, 150 edits", "Without clashes the sheet takes all edits",
                FullSheetTest::edits150);
        CHECK.sentence("promise 14, 150 clashes", "how many cells clash", FullSheetTest::clashes150);
        CHECK.sentence("terms, UNDO, fifteen and sixteen", UP_TO_16, FullSheetTest::fifteenAndSixteen);
        CHECK.sentence("terms, UNDO, one more than sixteen", UP_TO_16, FullSheetTest::seventeen);
        CHECK.sentence("terms, UNDO, many more than sixteen", UP_TO_16, FullSheetTest::manyMoreThanSixteen);
        CHECK.sentence("terms, UNDO, sixteen again and again", UP_TO_16, FullSheetTest::sixteenAgain);
        CHECK.sentence("promise 16, 150 cells", "Undoes the latest thing", FullSheetTest::undoOfAFullSheet);
        CHECK.sentence("promise 17, sixty sources", "The k-th source, by number, that a cell's formula as it is uses",
                FullSheetTest::usesAllSources);
        CHECK.sentence("promise 18, 150 cells", "The length of the shortest circle", FullSheetTest::circleOf150);
        CHECK.end();
    }

    private static void calls512() {
        SheetNeeds x = Sheets.full(); // 214 calls
        x.run(); // 215
        for (int i = 0; i < 147; i++) { // up to 509
            x.change(0, 1000 + i);
            x.run();
        }
        // Cell 0 uses source 0 twice, and of the others 60 and 120 use it, too.
        CHECK.is("call 510: at(149)", x.at(149), 4 * 1146 + sumOfTurns());
        CHECK.is("call 511: count(5)", x.count(5), 150 * 148);
        CHECK.is("call 512: undo()", x.undo(), true);
    }

    /** What the cells of a full sheet add but for source 0. */
    private static long sumOfTurns() {
        long sum = 0;
        for (int i = 0; i < 150; i++) {
            sum += i % 60 == 0 ? 0 : i % 60 + 1;
        }
        return sum;
    }

    private static void sixtySources() {
        SheetNeeds x = new SheetNeeds();
        for (int i = 0; i < 60; i++) {
            CHECK.is("source " + i, x.source(100 - i), i);
            CHECK.is("count(0)", x.count(0), i + 1);
        }
        for (int i = 0; i < 60; i++) {
            CHECK.is("change(" + i + ", ..)", x.change(i, i), 100 - i);
        }
        for (int i = 0; i < 60; i++) {
            CHECK.is("change(" + i + ", ..) again", x.change(i, 0), i);
        }
    }

    private static void source61() {
        SheetNeeds x = Sheets.of(59, 0, 0);
        CHECK.is("the sixtieth", x.source(9), 59);
        CHECK.isUnsupported("the sixty-first", () -> x.source(9));
        CHECK.isUnsupported("and again", () -> x.source(9));
        CHECK.is("count(0)", x.count(0), 60);
    }

    private static void sourcesAsOperands() {
        SheetNeeds x = Sheets.of(60, 0, 0);
        for (int k = 0; k < 60; k++) {
            x.cell(5, -1 - k, -60 + k);
        }
        x.run();
        for (int k = 0; k < 60; k++) {
            CHECK.is("source " + k + " as the first operand", x.at(k), k + 1);
        }
        x.cell(1, -60, -1);
        x.run();
        CHECK.is("the last - the first", x.at(60), 59);
        CHECK.isWrongArgument("-61 is no source", () -> x.cell(0, -61, -1));
        CHECK.isWrongArgument("nor as the second operand", () -> x.cell(0, -1, -61));
    }

    private static void cells150() {
        SheetNeeds x = Sheets.withSources(1);
        for (int i = 0; i < 150; i++) {
            CHECK.is("cell " + i, x.cell(0, i == 0 ? -1 : i - 1, -1), i);
            CHECK.is("count(1)", x.count(1), i + 1);
        }
        x.run();
        CHECK.is("at(0)", x.at(0), 2);
        CHECK.is("at(149)", x.at(149), 151);
        CHECK.is("the last cell as an operand of the first", x.edit(0, 0, 149, 149), true);
        CHECK.is("the last cell can be edited", x.edit(149, 4, -1, 148), true);
        CHECK.is("the last cell can be told to fail", x.fail(149, true), false);
    }

    private static void cell151() {
        SheetNeeds x = Sheets.of(1, 149, 0);
        CHECK.is("the last one that there may be", x.cell(0, 149, -1), 149);
        CHECK.isUnsupported("one more", () -> x.cell(0, -1, -1));
        CHECK.isUnsupported("and again", () -> x.cell(5, 149, 0));
        CHECK.is("count(1)", x.count(1), 150);
        CHECK.isNoIndex("state(150)", () -> x.state(150));
    }

    private static void formulasOf150() {
        SheetNeeds x = Sheets.of(60, 150, 0);
        for (int i = 1; i < 150; i++) {
            CHECK.is("formula(" + i + ", 1)", x.formula(i, 1), i - 1);
            CHECK.is("formula(" + i + ", 2)", x.formula(i, 2), -1 - i % 60);
        }
    }

    private static void runOf150() {
        SheetNeeds x = Sheets.of(1, 150, 0);
        CHECK.is("run()", x.run(), 150);
        for (int k = 0; k < 150; k++) {
            CHECK.is("worked(" + k + ")", x.worked(k), k);
        }
        CHECK.isNoIndex("worked(150)", () -> x.worked(150));
        CHECK.is("run() again", x.run(), 0);
        x.edit(149, 4, 148, -1);
        CHECK.is("run() behind an edit of the last one", x.run(), 1);
        CHECK.is("worked(0)", x.worked(0), 149);
    }

    private static void lastCellComesFirst() {
        SheetNeeds x = Sheets.plain(150);
        for (int i = 0; i < 149; i++) {
            x.edit(i, 0, i + 1, -1);
        }
        CHECK.is("run()", x.run(), 150);
        for (int k = 0; k < 150; k++) {
            CHECK.is("worked(" + k + ")", x.worked(k), 149 - k);
        }
        CHECK.is("at(0)", x.at(0), 151);
    }

    private static void isCount(SheetNeeds x, int good, int failing, int barred, int circling) {
        CHECK.is("count(6)", x.count(6), good);
        CHECK.is("count(7)", x.count(7), failing);
        CHECK.is("count(8)", x.count(8), barred);
        CHECK.is("count(9)", x.count(9), circling);
    }

    private static void allOfOneState() {
        SheetNeeds x = Sheets.of(1, 150, 0);
        isCount(x, 0, 0, 0, 0);
        x.run();
        isCount(x, 150, 0, 0, 0);
        x.fail(0, true);
        CHECK.is("run() of the failing one alone", x.run(), 1);
        isCount(x, 0, 1, 149, 0);
        x.edit(0, 0, 149, 149);
        CHECK.is("run() of a circle of all", x.run(), 0);
        isCount(x, 0, 0, 0, 150);
        x.edit(0, 0, 0, -1);
        CHECK.is("run() of a circle of one", x.run(), 0);
        isCount(x, 0, 0, 149, 1);
        SheetNeeds y = Sheets.withSources(0);
        for (int i = 0; i < 150; i++) {
            y.cell(3, -1, -1);
        }
        CHECK.is("run() of failing ones", y.run(), 150);
        isCount(y, 0, 150, 0, 0);
    }

    private static void workedInAllRuns() {
        SheetNeeds x = Sheets.of(1, 150, 0);
        for (int i = 1; i <= 100; i++) {
            x.change(0, i + 1);
            x.run();
        }
        CHECK.is("count(5)", x.count(5), 15000);
    }

    private static void fourCopies() {
        SheetNeeds x = Sheets.of(1, 2, 0);
        for (int i = 0; i < 4; i++) {
            x.edit(0, i, -1, -1);
            CHECK.is("person " + i, x.person(), i);
            CHECK.is("count(2)", x.count(2), i + 1);
        }
        for (int i = 0; i < 4; i++) {
            CHECK.is("copy " + i + " is the sheet as it was", x.write(i, 0, i, -1, -1), false);
            x.write(i, 1, i, 1, 1);
        }
        CHECK.is("edits(0): another operand is an edit, too", x.edits(0), 1);
        CHECK.is("the last one joins", x.join(3), 0);
        CHECK.is("the sheet has that one's edit", x.formula(1, 0), 3);
        for (int i = 0; i < 3; i++) {
            CHECK.is("join(" + i + ")", x.join(i), 1);
        }
    }

    private static void fifthPerson() {
        SheetNeeds x = Sheets.of(1, 1, 3);
        CHECK.is("the fourth", x.person(), 3);
        CHECK.isUnsupported("the fifth", () -> x.person());
        CHECK.isUnsupported("and again", () -> x.person());
        CHECK.is("count(2)", x.count(2), 4);
        CHECK.isNoIndex("edits(4)", () -> x.edits(4));
    }

    private static void writeAll(SheetNeeds x, int op) {
        for (int i = 0; i < 150; i++) {
            x.write(0, i, op, -1, 149 - i);
        }
    }

    private static void edits150() {
        SheetNeeds x = Sheets.of(1, 150, 1);
        writeAll(x, 4);
        CHECK.is("edits(0)", x.edits(0), 150);
        CHECK.is("join(0)", x.join(0), 0);
        CHECK.is("edits(0) behind it", x.edits(0), 0);
        for (int i = 0; i < 150; i++) {
            CHECK.is("formula(" + i + ", 2)", x.formula(i, 2), 149 - i);
        }
        CHECK.is("it is one thing", x.undo(), true);
        CHECK.is("the first formula is as before", x.formula(0, 2), -1);
        CHECK.is("the last formula is as before", x.formula(149, 1), 148);
    }

    private static void clashes150() {
        SheetNeeds x = Sheets.of(1, 150, 1);
        writeAll(x, 4);
        for (int i = 0; i < 150; i++) {
            x.edit(i, 5, -1, -1);
        }
        CHECK.is("join(0)", x.join(0), 150);
        CHECK.is("edits(0)", x.edits(0), 150);
        CHECK.is("the first formula stays", x.formula(0, 0), 5);
        CHECK.is("the last formula stays", x.formula(149, 0), 5);
    }

    private static void fifteenAndSixteen() {
        for (int things = 15; things <= 16; things++) {
            SheetNeeds x = Sheets.of(1, 1, 0);
            for (int i = 1; i <= things; i++) {
                x.change(0, 100 + i);
                CHECK.is("count(3)", x.count(3), i);
            }
            for (int i = things - 1; i >= 0; i--) {
                CHECK.is("undo()", x.undo(), true);
                CHECK.is("count(3)", x.count(3), i);
            }
            CHECK.is("undo() behind all of them", x.undo(), false);
            CHECK.is("the source as before the first", x.change(0, 0), 1);
        }
    }

    /** The latest first: each undo brings back the number before it. */
    private static void seventeen() {
        SheetNeeds x = Sheets.of(1, 1, 0);
        for (int i = 1; i <= 17; i++) {
            x.change(0, 100 + i);
        }
        CHECK.is("count(3)", x.count(3), 16);
        for (int i = 16; i >= 1; i--) {
            CHECK.is("undo()", x.undo(), true);
            x.run();
            CHECK.is("at(0)", x.at(0), 2 * (100 + i));
            CHECK.is("undo() of the run", x.undo(), true);
        }
        CHECK.is("the first thing can not be undone any more", x.undo(), false);
        CHECK.is("the source as before the second", x.change(0, 0), 101);
    }

    private static void manyMoreThanSixteen() {
        for (int things = 18; things <= 50; things++) {
            SheetNeeds x = Sheets.of(1, 1, 0);
            for (int i = 1; i <= things; i++) {
                x.change(0, 100 + i);
            }
            int undone = 0;
            while (undone < 100 && x.undo()) {
                undone++;
            }
            CHECK.is("undone of " + things, undone, 16);
            CHECK.is("the source", x.change(0, 0), 100 + things - 16);
        }
    }

    private static void sixteenAgain() {
        SheetNeeds x = Sheets.of(1, 1, 0);
        for (int turn = 0; turn < 9; turn++) {
            for (int i = 0; i < 16 + turn; i++) {
                x.change(0, 100 + i);
            }
            for (int i = 0; i < 16; i++) {
                CHECK.is("undo() in turn " + turn, x.undo(), true);
            }
            CHECK.is("undo() behind sixteen", x.undo(), false);
            CHECK.is("the source", x.change(0, 1), turn == 0 ? 1 : 100 + turn - 1);
            x.source(5); // leaves nothing to undo, and the place where the next thing is kept as it is
        }
    }

    private static void undoOfAFullSheet() {
        SheetNeeds x = Sheets.full();
        x.run();
        long last = x.at(149);
        x.change(59, 1000);
        x.fail(100, true);
        x.run();
        CHECK.is("state(149)", x.state(149), 2);
        x.undo();
        CHECK.is("at(149)", x.at(149), last);
        CHECK.is("state(100)", x.state(100), 0);
        x.undo();
        x.undo();
        CHECK.is("source 59", x.change(59, 60), 60);
        CHECK.is("what cells were worked with is as before", x.run(), 0);
        x.undo();
        x.undo();
        x.undo();
        CHECK.is("state(0) is new", x.state(0), 4);
        CHECK.is("state(149) is new", x.state(149), 4);
        CHECK.is("all are worked", x.run(), 150);
        CHECK.is("at(149)", x.at(149), last);
    }

    private static void usesAllSources() {
        SheetNeeds x = Sheets.full();
        for (int k = 0; k < 60; k++) {
            CHECK.is("uses(149, " + k + ")", x.uses(149, k), k);
        }
        CHECK.isNoIndex("uses(149, 60)", () -> x.uses(149, 60));
        x.edit(149, 0, -60, -60);
        CHECK.is("the last source alone", x.uses(149, 0), 59);
        CHECK.isNoIndex("uses(149, 1)", () -> x.uses(149, 1));
    }

    private static void circleOf150() {
        SheetNeeds x = Sheets.of(1, 150, 0);
        CHECK.is("circle() without", x.circle(), 0);
        x.edit(0, 0, 149, -1);
        CHECK.is("circle() of all cells", x.circle(), 150);
        for (int k = 0; k < 150; k++) {
            CHECK.is("circleAt(" + k + ")", x.circleAt(k), k == 0 ? 0 : 150 - k);
        }
        x.edit(149, 0, 148, 149);
        CHECK.is("circle() of the last cell", x.circle(), 1);
        CHECK.is("circleAt(0)", x.circleAt(0), 149);
        x.edit(149, 0, 148, -1);
        x.edit(0, 0, -1, -1);
        x.edit(1, 0, -1, 149);
        CHECK.is("circle() of all cells but 0", x.circle(), 149);
        CHECK.is("circleAt(0)", x.circleAt(0), 1);
        CHECK.is("circleAt(1)", x.circleAt(1), 149);
        CHECK.is("circleAt(148)", x.circleAt(148), 2);
    }
}
