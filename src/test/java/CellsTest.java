/** Promises 1 to 6, 11 and 20: what is there, and how it is changed. */
public final class CellsTest {
    private static final Check CHECK = new Check();

    public static void main(String[] args) {
        promise1NewObject();
        promise2Source();
        promise3Cell();
        promise3FullSheet();
        promise4Change();
        promise5Edit();
        promise6Fail();
        promise11Formula();
        promise20Count();
        CHECK.end();
    }

    private static void promise1NewObject() {
        SheetNeeds x = new SheetNeeds();
        for (int what = 0; what < 10; what++) {
            CHECK.is("new: count(" + what + ")", x.count(what), 0);
        }
        CHECK.is("new: circle()", x.circle(), 0);
        CHECK.is("new: undo()", x.undo(), false);
        CHECK.isNoIndex("new: change(0, 1)", () -> x.change(0, 1));
        CHECK.isNoIndex("new: edit(0, 0, 0, 0)", () -> x.edit(0, 0, 0, 0));
        CHECK.isNoIndex("new: fail(0, true)", () -> x.fail(0, true));
        CHECK.isNoIndex("new: at(0)", () -> x.at(0));
        CHECK.isNoIndex("new: state(0)", () -> x.state(0));
        CHECK.isNoIndex("new: worked(0)", () -> x.worked(0));
        CHECK.isNoIndex("new: formula(0, 0)", () -> x.formula(0, 0));
        CHECK.isNoIndex("new: write(0, 0, 0, 0, 0)", () -> x.write(0, 0, 0, 0, 0));
        CHECK.isNoIndex("new: join(0)", () -> x.join(0));
        CHECK.isNoIndex("new: edits(0)", () -> x.edits(0));
        CHECK.isNoIndex("new: uses(0, 0)", () -> x.uses(0, 0));
        CHECK.isNoIndex("new: circleAt(0)", () -> x.circleAt(0));
        CHECK.is("new: run()", x.run(), 0);
        CHECK.is("new: count(3) behind run()", x.count(3), 1);
        SheetNeeds other = new SheetNeeds();
        other.source(1);
        CHECK.is("objects share nothing", x.count(0), 0);
    }

    private static void promise2Source() {
        SheetNeeds x = new SheetNeeds();
        for (int i = 0; i < 60; i++) {
            CHECK.is("source " + i, x.source(i * 7L), i);
        }
        x.change(59, 1);
        CHECK.isUnsupported("source 60", () -> x.source(0));
        CHECK.is("count(0) of a full sheet", x.count(0), 60);
        CHECK.is("a source that was refused leaves what can be undone", x.count(3), 1);
        CHECK.is("the last source's number", x.change(59, 2), 1);
        CHECK.is("the source before that", x.change(58, 2), 58 * 7);
    }

    private static void promise3Cell() {
        SheetNeeds x = new SheetNeeds();
        CHECK.is("the first cell uses itself", x.cell(0, 0, 0), 0);
        CHECK.isWrongArgument("a source that is not there", () -> x.cell(0, -1, 0));
        CHECK.isWrongArgument("as the second operand", () -> x.cell(0, 0, -1));
        x.source(5);
        CHECK.is("ops from 0", x.cell(0, -1, -1), 1);
        CHECK.is("ops to 5", x.cell(5, 1, 2), 2);
        CHECK.isWrongArgument("op 6", () -> x.cell(6, -1, -1));
        CHECK.isWrongArgument("op -1", () -> x.cell(-1, -1, -1));
        CHECK.isWrongArgument("the greatest op", () -> x.cell(Integer.MAX_VALUE, -1, -1));
        CHECK.isWrongArgument("the second source", () -> x.cell(0, -2, -1));
        CHECK.isWrongArgument("the lowest operand", () -> x.cell(0, Integer.MIN_VALUE, -1));
        CHECK.isWrongArgument("the cell behind this one", () -> x.cell(0, 4, -1));
        CHECK.isWrongArgument("as the second operand", () -> x.cell(0, -1, 4));
        CHECK.isWrongArgument("the greatest operand", () -> x.cell(0, -1, Integer.MAX_VALUE));
        CHECK.is("nothing came of those", x.count(1), 3);
        CHECK.is("this one as the first operand", x.cell(0, 3, -1), 3);
        CHECK.is("this one as the second operand", x.cell(0, -1, 4), 4);
        CHECK.is("a cell begins as a new one", x.state(4), 4);
    }

    private static void promise3FullSheet() {
        SheetNeeds x = new SheetNeeds();
        x.source(1);
        for (int i = 0; i < 150; i++) {
            CHECK.is("cell " + i, x.cell(0, -1, i == 0 ? -1 : i - 1), i);
        }
        CHECK.is("run() of a full sheet", x.run(), 150);
        CHECK.isUnsupported("cell 150", () -> x.cell(0, -1, 149));
        CHECK.isUnsupported("cell 150 that would use itself", () -> x.cell(0, -1, 150));
        CHECK.isWrongArgument("a wrong op is told first", () -> x.cell(6, -1, -1));
        CHECK.isWrongArgument("a wrong operand is told first", () -> x.cell(0, -2, -1));
        CHECK.isWrongArgument("a cell that could not be", () -> x.cell(0, -1, 151));
        CHECK.is("count(1) of a full sheet", x.count(1), 150);
        CHECK.is("a cell that was refused leaves what can be undone", x.count(3), 1);
        CHECK.is("the last cell's number", x.at(149), 151);
    }

    private static void promise4Change() {
        SheetNeeds x = new SheetNeeds();
        x.source(Long.MIN_VALUE);
        x.source(8);
        CHECK.is("change(0, ..)", x.change(0, Long.MAX_VALUE), Long.MIN_VALUE);
        CHECK.is("change(0, ..) again", x.change(0, 3), Long.MAX_VALUE);
        CHECK.is("change(1, 8) to the same", x.change(1, 8), 8);
        CHECK.is("each of them can be undone", x.count(3), 3);
        CHECK.isNoIndex("change(2, 0)", () -> x.change(2, 0));
        CHECK.isNoIndex("change(-1, 0)", () -> x.change(-1, 0));
        CHECK.isNoIndex("change(60, 0)", () -> x.change(60, 0));
        CHECK.isNoIndex("change(MIN_VALUE, 0)", () -> x.change(Integer.MIN_VALUE, 0));
        CHECK.is("nothing came of those", x.count(3), 3);
    }

    private static void promise5Edit() {
        SheetNeeds x = new SheetNeeds();
        x.source(1);
        x.cell(0, -1, -1);
        x.cell(1, 0, -1);
        CHECK.is("the same formula", x.edit(0, 0, -1, -1), false);
        CHECK.is("another op", x.edit(0, 1, -1, -1), true);
        CHECK.is("another first operand", x.edit(0, 1, 1, -1), true);
        CHECK.is("another second operand", x.edit(0, 1, 1, 0), true);
        CHECK.is("operands change places", x.edit(0, 1, 0, 1), true);
        CHECK.is("each of them can be undone", x.count(3), 5);
        CHECK.isNoIndex("no such cell", () -> x.edit(2, 0, -1, -1));
        CHECK.isNoIndex("cell -1", () -> x.edit(-1, 0, -1, -1));
        CHECK.isNoIndex("the cell is told before the op", () -> x.edit(2, 6, -1, -1));
        CHECK.isNoIndex("the cell is told before the operands", () -> x.edit(150, 0, -9, 9));
        CHECK.isWrongArgument("op 6", () -> x.edit(0, 6, -1, -1));
        CHECK.isWrongArgument("op -1", () -> x.edit(0, -1, -1, -1));
        CHECK.isWrongArgument("a source that is not there", () -> x.edit(0, 0, -2, -1));
        CHECK.isWrongArgument("a cell that is not there", () -> x.edit(0, 0, -1, 2));
        CHECK.is("nothing came of those", x.count(3), 5);
        CHECK.is("the op stays", x.formula(0, 0), 1);
        CHECK.is("the operand stays", x.formula(0, 1), 0);
    }

    private static void promise6Fail() {
        SheetNeeds x = new SheetNeeds();
        x.source(1);
        x.cell(0, -1, -1);
        CHECK.is("fail(0, true)", x.fail(0, true), false);
        CHECK.is("fail(0, true) again", x.fail(0, true), true);
        CHECK.is("fail(0, false)", x.fail(0, false), true);
        CHECK.is("fail(0, false) again", x.fail(0, false), false);
        CHECK.is("each of them can be undone", x.count(3), 4);
        CHECK.isNoIndex("fail(1, true)", () -> x.fail(1, true));
        CHECK.isNoIndex("fail(-1, true)", () -> x.fail(-1, true));
        CHECK.isNoIndex("fail(150, false)", () -> x.fail(150, false));
        CHECK.is("nothing came of those", x.count(3), 4);
    }

    private static void promise11Formula() {
        SheetNeeds x = new SheetNeeds();
        x.source(1);
        x.cell(3, -1, 0);
        CHECK.is("formula(0, 0)", x.formula(0, 0), 3);
        CHECK.is("formula(0, 1)", x.formula(0, 1), -1);
        CHECK.is("formula(0, 2)", x.formula(0, 2), 0);
        x.edit(0, 4, 0, -1);
        CHECK.is("formula(0, 0) behind edit()", x.formula(0, 0), 4);
        CHECK.is("formula(0, 1) behind edit()", x.formula(0, 1), 0);
        CHECK.is("formula(0, 2) behind edit()", x.formula(0, 2), -1);
        CHECK.isNoIndex("formula(0, 3)", () -> x.formula(0, 3));
        CHECK.isNoIndex("formula(0, -1)", () -> x.formula(0, -1));
        CHECK.isNoIndex("formula(1, 0)", () -> x.formula(1, 0));
        CHECK.isNoIndex("formula(-1, 0)", () -> x.formula(-1, 0));
    }

    private static void promise20Count() {
        SheetNeeds x = new SheetNeeds();
        x.source(0);
        x.source(2);
        x.cell(0, -1, -2); // good
        x.cell(3, 0, -1); // failing
        x.cell(0, 1, 0); // barred
        x.cell(0, 3, 3); // in a circle
        x.cell(0, 3, 2); // barred
        x.cell(4, 0, 0); // good
        x.cell(5, -1, 0); // good
        x.person();
        x.run();
        x.run();
        x.change(1, 3);
        x.run();
        long[] due = {2, 7, 1, 4, 4, 8, 3, 1, 2, 1};
        for (int what = 0; what < due.length; what++) {
            CHECK.is("count(" + what + ")", x.count(what), due[what]);
        }
        CHECK.is("count(10)", x.count(10), SheetNeeds.NONE);
        CHECK.is("count(-1)", x.count(-1), SheetNeeds.NONE);
        CHECK.is("count(MIN_VALUE)", x.count(Integer.MIN_VALUE), SheetNeeds.NONE);
        CHECK.is("count(MAX_VALUE)", x.count(Integer.MAX_VALUE), SheetNeeds.NONE);
        x.cell(0, -1, -1);
        CHECK.is("a new cell has none of the states that are counted",
                x.count(6) + x.count(7) + x.count(8) + x.count(9), 7);
        CHECK.is("the latest run's cells stay behind a new cell", x.count(4), 4);
    }
}
