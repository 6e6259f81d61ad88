/** People at their edges: what is in a copy, what is an edit, what is a clash, and what a join leaves. */
public final class PeopleEdgesTest {
    private static final Check CHECK = new Check();
    private static final String EDITS =
            "cells that are another formula in the copy than at that time are the person's EDITS.";
    private static final String CLASH =
            "They CLASH in a cell, if the sheet's formula is another one than at that time, too, and not"
                    + " that of the copy.";

    public static void main(String[] args) {
        copies();
        editsAndClashes();
        joins();
        CHECK.end();
    }

    private static void copies() {
        CHECK.sentence("terms, COPY", "from the time when they came or their latest join",
                PeopleEdgesTest::timeTheyCame);
        CHECK.sentence("terms, COPY, joined", "from the time when they came or their latest join",
                PeopleEdgesTest::timeOfTheJoin);
        CHECK.sentence("terms, COPY, a join that clashes", "or their latest join",
                PeopleEdgesTest::clashingJoinIsNoTime);
        CHECK.sentence("terms, COPY", "Cells that came later than the copy are not in it.",
                PeopleEdgesTest::laterCells);
        CHECK.sentence("promise 12", "A person more, with a copy of the sheet as it is: its number.",
                PeopleEdgesTest::numbersOfPeople);
        CHECK.sentence("promise 13", "A person's copy has another formula of a cell: whether it is another one.",
                PeopleEdgesTest::writeAnswers);
        CHECK.sentence("promise 13, source", "when there is no such op, source, or cell of the copy.",
                PeopleEdgesTest::laterSource);
        CHECK.sentence("promise 13, the copy alone", "A person's copy has another formula of a cell",
                PeopleEdgesTest::onlyTheCopy);
    }

    private static void editsAndClashes() {
        CHECK.sentence("terms, EDITS, op", EDITS, () -> oneEdit(1, -1, -2));
        CHECK.sentence("terms, EDITS, a", EDITS, () -> oneEdit(0, -2, -2));
        CHECK.sentence("terms, EDITS, b", EDITS, () -> oneEdit(0, -1, -1));
        CHECK.sentence("terms, EDITS, a and b", EDITS, () -> oneEdit(0, -2, -1));
        CHECK.sentence("terms, EDITS, written back", EDITS, PeopleEdgesTest::writtenBack);
        CHECK.sentence("terms, EDITS, the sheet", EDITS, PeopleEdgesTest::sheetDoesNotMatterForEdits);
        CHECK.sentence("promise 15", "How many edits a person has.", PeopleEdgesTest::editsAreCells);
        CHECK.sentence("terms, CLASH, the copy alone differs", CLASH, PeopleEdgesTest::copyAlone);
        CHECK.sentence("terms, CLASH, the sheet alone differs", CLASH, PeopleEdgesTest::sheetAlone);
        CHECK.sentence("terms, CLASH, both in the same way", CLASH, PeopleEdgesTest::bothTheSame);
        CHECK.sentence("terms, CLASH, op", CLASH, () -> bothDiffer(2, -1, -2));
        CHECK.sentence("terms, CLASH, a", CLASH, () -> bothDiffer(1, -2, -2));
        CHECK.sentence("terms, CLASH, b", CLASH, () -> bothDiffer(1, -1, -1));
        CHECK.sentence("terms, CLASH, the sheet went there and back", CLASH, PeopleEdgesTest::sheetThereAndBack);
        CHECK.sentence("terms, CLASH, the sheet was undone", CLASH, PeopleEdgesTest::sheetUndone);
        CHECK.sentence("terms, CLASH, by another person's join", CLASH, PeopleEdgesTest::otherPerson);
    }

    private static void joins() {
        CHECK.sentence("promise 14", "how many cells clash", PeopleEdgesTest::countsClashes);
        CHECK.sentence("promise 14, one clash of three edits", "(nothing is done then, if any do)",
                PeopleEdgesTest::oneClashBarsAll);
        CHECK.sentence("terms, JOINING", "Without clashes the sheet takes all edits", PeopleEdgesTest::takesEditsAlone);
        CHECK.sentence("terms, JOINING", "and the copy becomes the sheet's formulas",
                PeopleEdgesTest::copyBecomesTheSheet);
        CHECK.sentence("terms, JOINING", "(cells that are new in the sheet come into it, too)",
                PeopleEdgesTest::newCellsComeIn);
        CHECK.sentence("promise 14, no edits", "Joins a person's edits", PeopleEdgesTest::noEdits);
        CHECK.sentence("promise 14, states", "Joins a person's edits", PeopleEdgesTest::joinIsNoRun);
    }

    /** Cells 0 to 2 are a + b, of sources 0 and 1; two people. */
    private static SheetNeeds shared() {
        SheetNeeds x = Sheets.withSources(6, 3);
        for (int i = 0; i < 3; i++) {
            x.cell(0, -1, -2);
        }
        x.person();
        x.person();
        return x;
    }

    private static void isFormula(SheetNeeds x, int cell, int op, int a, int b) {
        CHECK.is("formula(" + cell + ", 0)", x.formula(cell, 0), op);
        CHECK.is("formula(" + cell + ", 1)", x.formula(cell, 1), a);
        CHECK.is("formula(" + cell + ", 2)", x.formula(cell, 2), b);
    }

    private static void timeTheyCame() {
        SheetNeeds x = shared();
        x.edit(0, 1, -1, -2);
        x.person();
        CHECK.is("a copy from before the edit", x.write(0, 0, 0, -1, -2), false);
        CHECK.is("a copy from behind it", x.write(2, 0, 1, -1, -2), false);
        CHECK.is("edits(0)", x.edits(0), 0);
        CHECK.is("edits(2)", x.edits(2), 0);
    }

    private static void timeOfTheJoin() {
        SheetNeeds x = shared();
        x.edit(0, 1, -1, -2);
        x.join(0);
        CHECK.is("the copy is the sheet as it was at the join", x.write(0, 0, 1, -1, -2), false);
        x.write(0, 0, 2, -1, -2);
        CHECK.is("the edit of before that does not clash", x.join(0), 0);
        x.write(0, 0, 0, -1, -2);
        CHECK.is("what it was when they came is an edit now", x.edits(0), 1);
    }

    private static void clashingJoinIsNoTime() {
        SheetNeeds x = shared();
        x.write(0, 0, 1, -1, -2);
        x.edit(0, 2, -1, -2);
        CHECK.is("join(0)", x.join(0), 1);
        x.write(0, 0, 0, -1, -2);
        CHECK.is("what it was when they came is none", x.edits(0), 0);
        x.write(0, 0, 2, -1, -2);
        CHECK.is("what the sheet has is one", x.edits(0), 1);
    }

    private static void laterCells() {
        SheetNeeds x = shared();
        x.cell(0, -1, -1);
        CHECK.is("the last cell of the copy", x.write(0, 2, 1, 2, 2), true);
        CHECK.isNoIndex("the later cell", () -> x.write(0, 3, 0, -1, -1));
        CHECK.isWrongArgument("as an operand", () -> x.write(0, 2, 0, 3, -1));
        x.person();
        CHECK.is("a copy from behind it has it", x.write(2, 3, 1, 3, 2), true);
    }

    private static void numbersOfPeople() {
        SheetNeeds x = new SheetNeeds();
        for (int i = 0; i < 4; i++) {
            CHECK.is("person()", x.person(), i);
        }
    }

    private static void writeAnswers() {
        SheetNeeds x = shared();
        CHECK.is("the same", x.write(0, 0, 0, -1, -2), false);
        CHECK.is("another op", x.write(0, 0, 1, -1, -2), true);
        CHECK.is("the same as in the copy", x.write(0, 0, 1, -1, -2), false);
        CHECK.is("back to that of the sheet", x.write(0, 0, 0, -1, -2), true);
        CHECK.is("another a", x.write(0, 0, 0, -2, -2), true);
        CHECK.is("another b", x.write(0, 0, 0, -2, -1), true);
        CHECK.is("itself", x.write(0, 0, 0, 0, 0), true);
        x.edit(1, 1, -1, -2);
        CHECK.is("that of the sheet, but not of the copy", x.write(0, 1, 1, -1, -2), true);
    }

    private static void laterSource() {
        SheetNeeds x = shared();
        CHECK.isWrongArgument("source 2", () -> x.write(0, 0, 0, -3, -1));
        x.source(9);
        CHECK.is("source 2 when it is there", x.write(0, 0, 0, -3, -1), true);
        CHECK.is("join(0)", x.join(0), 0);
        x.run();
        CHECK.is("at(0)", x.at(0), 15);
    }

    private static void onlyTheCopy() {
        SheetNeeds x = shared();
        x.run();
        x.write(0, 0, 3, 0, 1);
        isFormula(x, 0, 0, -1, -2);
        CHECK.is("edits(1)", x.edits(1), 0);
        CHECK.is("circle()", x.circle(), 0);
        CHECK.is("run()", x.run(), 0);
        CHECK.is("count(3): the runs alone", x.count(3), 2);
    }

    private static void oneEdit(int op, int a, int b) {
        SheetNeeds x = shared();
        x.write(0, 1, op, a, b);
        CHECK.is("edits(0)", x.edits(0), 1);
        CHECK.is("edits(1)", x.edits(1), 0);
        CHECK.is("join(0)", x.join(0), 0);
        isFormula(x, 1, op, a, b);
        isFormula(x, 0, 0, -1, -2);
        isFormula(x, 2, 0, -1, -2);
    }

    private static void writtenBack() {
        SheetNeeds x = shared();
        x.write(0, 0, 1, -2, -1);
        x.write(0, 0, 0, -1, -2);
        CHECK.is("edits(0)", x.edits(0), 0);
        x.edit(0, 2, -1, -1);
        CHECK.is("join(0)", x.join(0), 0);
        isFormula(x, 0, 2, -1, -1);
    }

    private static void sheetDoesNotMatterForEdits() {
        SheetNeeds x = shared();
        x.edit(0, 1, -1, -2);
        CHECK.is("the sheet's edit is none", x.edits(0), 0);
        x.write(0, 0, 1, -1, -2);
        CHECK.is("the same as the sheet's is one", x.edits(0), 1);
        x.undo();
        CHECK.is("and stays one behind undo()", x.edits(0), 1);
    }

    private static void editsAreCells() {
        SheetNeeds x = shared();
        x.write(0, 0, 1, -1, -2);
        x.write(0, 0, 2, -1, -2);
        CHECK.is("one cell twice", x.edits(0), 1);
        x.write(0, 2, 1, -1, -2);
        CHECK.is("two cells", x.edits(0), 2);
        x.write(0, 1, 1, -1, -2);
        CHECK.is("all cells", x.edits(0), 3);
        x.join(0);
        CHECK.is("none behind the join", x.edits(0), 0);
    }

    private static void copyAlone() {
        SheetNeeds x = shared();
        x.write(0, 0, 1, -1, -2);
        x.edit(1, 2, -1, -2);
        CHECK.is("join(0)", x.join(0), 0);
        isFormula(x, 0, 1, -1, -2);
        isFormula(x, 1, 2, -1, -2);
    }

    private static void sheetAlone() {
        SheetNeeds x = shared();
        x.edit(0, 1, -1, -2);
        CHECK.is("join(0)", x.join(0), 0);
        isFormula(x, 0, 1, -1, -2);
    }

    private static void bothTheSame() {
        SheetNeeds x = shared();
        x.edit(0, 1, -2, -1);
        x.write(0, 0, 1, -2, -1);
        CHECK.is("join(0)", x.join(0), 0);
        isFormula(x, 0, 1, -2, -1);
        CHECK.is("edits(0)", x.edits(0), 0);
    }

    /** The copy has op 1 of sources 0 and 1. */
    private static void bothDiffer(int op, int a, int b) {
        SheetNeeds x = shared();
        x.write(0, 0, 1, -1, -2);
        x.edit(0, op, a, b);
        CHECK.is("join(0)", x.join(0), 1);
        isFormula(x, 0, op, a, b);
        x.edit(0, 1, -1, -2);
        CHECK.is("join(0), when the sheet has that of the copy", x.join(0), 0);
    }

    private static void sheetThereAndBack() {
        SheetNeeds x = shared();
        x.write(0, 0, 1, -1, -2);
        x.edit(0, 2, -1, -2);
        x.edit(0, 0, -1, -2);
        CHECK.is("join(0)", x.join(0), 0);
        isFormula(x, 0, 1, -1, -2);
    }

    private static void sheetUndone() {
        SheetNeeds x = shared();
        x.write(0, 0, 1, -1, -2);
        x.edit(0, 2, -1, -2);
        CHECK.is("join(0) before undo()", x.join(0), 1);
        x.undo();
        CHECK.is("join(0) behind undo()", x.join(0), 0);
        x.undo();
        x.write(0, 0, 2, -1, -2);
        CHECK.is("the join was undone: the sheet is another one than at that time", x.join(0), 1);
    }

    private static void otherPerson() {
        SheetNeeds x = shared();
        x.write(0, 0, 1, -1, -2);
        x.write(0, 1, 1, -1, -2);
        x.write(1, 1, 2, -1, -2);
        x.write(1, 2, 2, -1, -2);
        CHECK.is("join(0)", x.join(0), 0);
        CHECK.is("join(1)", x.join(1), 1);
        x.write(1, 1, 0, -1, -2);
        CHECK.is("join(1) without the edit that clashed", x.join(1), 0);
        isFormula(x, 0, 1, -1, -2);
        isFormula(x, 1, 1, -1, -2);
        isFormula(x, 2, 2, -1, -2);
    }

    private static void countsClashes() {
        SheetNeeds x = shared();
        for (int i = 0; i < 3; i++) {
            x.write(0, i, 1, -1, -2);
            x.edit(i, 2, -1, -2);
            CHECK.is("join(0)", x.join(0), i + 1);
        }
        for (int i = 0; i < 3; i++) {
            x.edit(i, 1, -1, -2);
            CHECK.is("join(0), when the sheet has that of the copy", x.join(0), 2 - i);
        }
    }

    private static void oneClashBarsAll() {
        SheetNeeds x = shared();
        for (int i = 0; i < 3; i++) {
            x.write(0, i, 1, -1, -2);
        }
        x.edit(1, 2, -1, -2);
        CHECK.is("join(0)", x.join(0), 1);
        isFormula(x, 0, 0, -1, -2);
        isFormula(x, 1, 2, -1, -2);
        isFormula(x, 2, 0, -1, -2);
        CHECK.is("edits(0)", x.edits(0), 3);
        CHECK.is("count(3): the edit alone", x.count(3), 1);
    }

    private static void takesEditsAlone() {
        SheetNeeds x = shared();
        x.edit(0, 4, -1, -2);
        x.write(0, 1, 5, 2, 0);
        x.write(0, 2, 1, -2, -1);
        CHECK.is("join(0)", x.join(0), 0);
        isFormula(x, 0, 4, -1, -2);
        isFormula(x, 1, 5, 2, 0);
        isFormula(x, 2, 1, -2, -1);
    }

    private static void copyBecomesTheSheet() {
        SheetNeeds x = shared();
        x.edit(0, 4, -1, -2);
        x.write(0, 1, 5, 2, 0);
        x.join(0);
        CHECK.is("the sheet's formula", x.write(0, 0, 4, -1, -2), false);
        CHECK.is("the edit", x.write(0, 1, 5, 2, 0), false);
        CHECK.is("the others' copies stay", x.write(1, 0, 0, -1, -2), false);
        CHECK.is("edits(0)", x.edits(0), 0);
    }

    private static void newCellsComeIn() {
        SheetNeeds x = shared();
        x.cell(4, -2, -1);
        x.write(0, 0, 1, -1, -2);
        CHECK.is("join(0)", x.join(0), 0);
        CHECK.is("the new cell in the copy", x.write(0, 3, 4, -2, -1), false);
        CHECK.is("as an operand", x.write(0, 0, 0, 3, 3), true);
        CHECK.isNoIndex("it is not in the other copy", () -> x.write(1, 3, 4, -2, -1));
        isFormula(x, 3, 4, -2, -1);
    }

    private static void noEdits() {
        SheetNeeds x = shared();
        CHECK.is("join(0)", x.join(0), 0);
        CHECK.is("count(3): it is a join() without clashes", x.count(3), 1);
        isFormula(x, 0, 0, -1, -2);
        CHECK.is("undo()", x.undo(), true);
    }

    private static void joinIsNoRun() {
        SheetNeeds x = shared();
        x.run();
        x.write(0, 0, 1, -1, -2);
        x.write(0, 1, 1, 1, 1);
        x.join(0);
        CHECK.is("at(0)", x.at(0), 9);
        CHECK.is("state(1)", x.state(1), 0);
        CHECK.is("circle()", x.circle(), 1);
        CHECK.is("count(4)", x.count(4), 3);
        CHECK.is("run()", x.run(), 1);
        CHECK.is("at(0) behind the run", x.at(0), 3);
        CHECK.is("state(1) behind the run", x.state(1), 3);
    }
}
