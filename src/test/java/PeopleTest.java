/** Promises 12 to 15: people, their copies, and joining. */
public final class PeopleTest {
    private static final Check CHECK = new Check();

    public static void main(String[] args) {
        promise12Person();
        promise13Write();
        promise13WrongCalls();
        promise14Join();
        promise14Clashes();
        promise14SameEditIsNoClash();
        promise14NewCells();
        promise14AgainstUndo();
        promise15Edits();
        CHECK.end();
    }

    private static SheetNeeds threeCells() {
        SheetNeeds x = new SheetNeeds();
        x.source(2);
        x.source(3);
        x.cell(0, -1, -2);
        x.cell(0, 0, 0);
        x.cell(0, 1, 0);
        return x;
    }

    private static void promise12Person() {
        SheetNeeds x = threeCells();
        x.run();
        CHECK.is("the first person", x.person(), 0);
        CHECK.is("a person leaves nothing to undo", x.count(3), 0);
        x.edit(0, 1, -1, -2);
        CHECK.is("the second person", x.person(), 1);
        CHECK.is("the copy is the sheet as it is", x.write(1, 0, 1, -1, -2), false);
        CHECK.is("an older copy is the sheet as it was", x.write(0, 0, 0, -1, -2), false);
        x.person();
        CHECK.is("the fourth person", x.person(), 3);
        x.change(0, 1);
        CHECK.isUnsupported("a fifth person", () -> x.person());
        CHECK.is("count(2)", x.count(2), 4);
        CHECK.is("a person that was refused leaves what can be undone", x.count(3), 1);
    }

    private static void promise13Write() {
        SheetNeeds x = threeCells();
        x.person();
        x.person();
        CHECK.is("the same formula", x.write(0, 1, 0, 0, 0), false);
        CHECK.is("another op", x.write(0, 1, 2, 0, 0), true);
        CHECK.is("the same as in the copy", x.write(0, 1, 2, 0, 0), false);
        CHECK.is("another first operand", x.write(0, 1, 2, -1, 0), true);
        CHECK.is("another second operand", x.write(0, 1, 2, -1, 1), true);
        CHECK.is("the sheet stays", x.formula(1, 0), 0);
        CHECK.is("the other copy stays", x.edits(1), 0);
        CHECK.is("writing can not be undone", x.count(3), 0);
        x.source(4);
        CHECK.is("a source that came later than the copy", x.write(0, 2, 0, -3, 2), true);
    }

    private static void promise13WrongCalls() {
        SheetNeeds x = threeCells();
        x.person();
        x.cell(0, 0, 0);
        CHECK.isNoIndex("person 1", () -> x.write(1, 0, 0, 0, 0));
        CHECK.isNoIndex("person -1", () -> x.write(-1, 0, 0, 0, 0));
        CHECK.isNoIndex("person 4", () -> x.write(4, 0, 0, 0, 0));
        CHECK.isNoIndex("a cell that came later", () -> x.write(0, 3, 0, 0, 0));
        CHECK.isNoIndex("cell -1", () -> x.write(0, -1, 0, 0, 0));
        CHECK.isNoIndex("cell 150", () -> x.write(0, 150, 0, 0, 0));
        CHECK.isNoIndex("the person is told before the op", () -> x.write(1, 0, 6, 0, 0));
        CHECK.isNoIndex("the cell is told before the op", () -> x.write(0, 3, 6, 0, 0));
        CHECK.isWrongArgument("op 6", () -> x.write(0, 0, 6, 0, 0));
        CHECK.isWrongArgument("op -1", () -> x.write(0, 0, -1, 0, 0));
        CHECK.isWrongArgument("a source that is not there", () -> x.write(0, 0, 0, -3, 0));
        CHECK.isWrongArgument("a cell that came later as operand", () -> x.write(0, 0, 0, 3, 0));
        CHECK.isWrongArgument("as the second operand", () -> x.write(0, 0, 0, 0, 3));
        CHECK.is("nothing came of those", x.edits(0), 0);
    }

    private static void promise14Join() {
        SheetNeeds x = threeCells();
        x.person();
        x.person();
        x.write(0, 0, 1, -1, -2);
        x.write(0, 2, 2, 1, 1);
        x.write(1, 1, 4, 0, -1);
        x.run();
        CHECK.is("join(0)", x.join(0), 0);
        CHECK.is("the sheet has the first edit", x.formula(0, 0), 1);
        CHECK.is("the sheet has the second edit", x.formula(2, 2), 1);
        CHECK.is("no edits are left", x.edits(0), 0);
        CHECK.is("other cells do not clash", x.join(1), 0);
        CHECK.is("the sheet has the other's edit", x.formula(1, 0), 4);
        CHECK.is("the sheet keeps the first edit", x.formula(0, 0), 1);
        CHECK.is("the copy has become the sheet", x.write(1, 0, 1, -1, -2), false);
        CHECK.is("but not the other copy", x.write(0, 1, 4, 0, -1), true);
        CHECK.is("joins can be undone", x.count(3), 3);
        CHECK.is("the next run works what was joined", x.run(), 3);
        CHECK.is("a join without edits", x.join(1), 0);
        CHECK.is("can be undone, too", x.count(3), 5);
        CHECK.isNoIndex("join(2)", () -> x.join(2));
        CHECK.isNoIndex("join(-1)", () -> x.join(-1));
        CHECK.isNoIndex("join(4)", () -> x.join(4));
    }

    private static void promise14Clashes() {
        SheetNeeds x = threeCells();
        x.person();
        x.write(0, 0, 1, -1, -2);
        x.write(0, 1, 1, 0, 0);
        x.write(0, 2, 1, 1, 0);
        x.edit(0, 2, -1, -2);
        x.edit(1, 2, 0, 0);
        CHECK.is("join(0)", x.join(0), 2);
        CHECK.is("nothing is done", x.formula(2, 0), 0);
        CHECK.is("the clashing cell stays", x.formula(0, 0), 2);
        CHECK.is("the edits stay", x.edits(0), 3);
        CHECK.is("there is nothing more to undo", x.count(3), 2);
        x.write(0, 0, 0, -1, -2);
        CHECK.is("an edit taken back does not clash", x.join(0), 1);
        x.edit(1, 0, 0, 0);
        CHECK.is("nor a cell of the sheet that is as it was then", x.join(0), 0);
        CHECK.is("what is no edit does not come into the sheet", x.formula(0, 0), 2);
        CHECK.is("the sheet has the edit", x.formula(1, 0), 1);
        CHECK.is("and the other", x.formula(2, 0), 1);
        CHECK.is("the copy takes the sheet's formula", x.write(0, 0, 2, -1, -2), false);
    }

    private static void promise14SameEditIsNoClash() {
        SheetNeeds x = threeCells();
        x.person();
        x.person();
        x.write(0, 0, 1, -2, -1);
        x.write(1, 0, 1, -2, -1);
        CHECK.is("the first", x.join(0), 0);
        CHECK.is("the same edit", x.join(1), 0);
        CHECK.is("the sheet's formula", x.formula(0, 1), -2);
        x.write(0, 0, 1, -1, -1);
        x.write(1, 0, 1, -2, -2);
        CHECK.is("the first", x.join(0), 0);
        CHECK.is("one that differs in an operand", x.join(1), 1);
    }

    private static void promise14NewCells() {
        SheetNeeds x = threeCells();
        x.person();
        x.cell(0, 2, 2);
        x.write(0, 0, 1, -1, -2);
        CHECK.is("join(0)", x.join(0), 0);
        CHECK.is("the new cell stays", x.formula(3, 1), 2);
        CHECK.is("the new cell came into the copy", x.write(0, 3, 1, 3, 2), true);
        CHECK.is("it is an edit now", x.edits(0), 1);
        CHECK.is("that is joined", x.join(0), 0);
        CHECK.is("formula(3, 1)", x.formula(3, 1), 3);
        CHECK.is("by a circle", x.circle(), 1);
    }

    private static void promise14AgainstUndo() {
        SheetNeeds x = threeCells();
        x.person();
        x.write(0, 0, 1, -1, -2);
        x.join(0);
        x.undo();
        CHECK.is("the sheet is as before", x.formula(0, 0), 0);
        CHECK.is("the copy stays as it is", x.write(0, 0, 1, -1, -2), false);
        CHECK.is("its time is that of the join", x.edits(0), 0);
        CHECK.is("no edit: no clash", x.join(0), 0);
        CHECK.is("the sheet stays", x.formula(0, 0), 0);
        CHECK.is("the copy takes the sheet's formula", x.write(0, 0, 0, -1, -2), false);
        x.write(0, 1, 1, 0, 0);
        x.join(0);
        x.undo();
        x.write(0, 1, 2, 0, 0);
        CHECK.is("the sheet went back behind the copy's time: a clash", x.join(0), 1);
        x.write(0, 1, 0, 0, 0);
        CHECK.is("unless it is the copy's formula", x.join(0), 0);
    }

    private static void promise15Edits() {
        SheetNeeds x = threeCells();
        x.person();
        x.person();
        CHECK.is("none to begin with", x.edits(0), 0);
        x.write(0, 0, 1, -1, -2);
        x.write(0, 0, 2, -1, -2);
        CHECK.is("two writes of one cell", x.edits(0), 1);
        x.write(0, 1, 0, 0, -1);
        x.write(0, 2, 0, 0, 0);
        CHECK.is("three cells", x.edits(0), 3);
        CHECK.is("of this person alone", x.edits(1), 0);
        x.write(0, 0, 0, -1, -2);
        CHECK.is("one taken back", x.edits(0), 2);
        x.edit(1, 0, 0, -1);
        CHECK.is("the sheet's formula does not matter", x.edits(0), 2);
        CHECK.is("the sheet's edits are not the person's", x.edits(1), 0);
        CHECK.isNoIndex("edits(2)", () -> x.edits(2));
        CHECK.isNoIndex("edits(-1)", () -> x.edits(-1));
        CHECK.isNoIndex("edits(4)", () -> x.edits(4));
    }
}
