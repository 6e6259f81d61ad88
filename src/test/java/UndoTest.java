/** Promise 16: undo. */
public final class UndoTest {
    private static final Check CHECK = new Check();

    public static void main(String[] args) {
        eachThing();
        runIsUndone();
        whatCellsWereWorkedWith();
        sixteen();
        whatLeavesNothing();
        whatIsNotUndone();
        undoWithoutAThing();
        circlesFollow();
        CHECK.end();
    }

    private static SheetNeeds twoCells() {
        SheetNeeds x = new SheetNeeds();
        x.source(5);
        x.source(0);
        x.cell(0, -1, -1);
        x.cell(3, 0, -2);
        x.person();
        return x;
    }

    private static void eachThing() {
        SheetNeeds x = twoCells();
        x.change(0, 6);
        CHECK.is("undo() of change()", x.undo(), true);
        CHECK.is("the source is as before", x.change(0, 7), 5);
        x.edit(1, 4, -1, -2);
        CHECK.is("undo() of edit()", x.undo(), true);
        CHECK.is("the op is as before", x.formula(1, 0), 3);
        CHECK.is("the first operand", x.formula(1, 1), 0);
        CHECK.is("the second operand", x.formula(1, 2), -2);
        x.fail(0, true);
        CHECK.is("undo() of fail()", x.undo(), true);
        CHECK.is("it is not told to fail", x.fail(0, false), false);
        x.write(0, 0, 2, -1, -1);
        x.join(0);
        CHECK.is("undo() of join()", x.undo(), true);
        CHECK.is("the op is as before", x.formula(0, 0), 0);
        x.edit(0, 0, -1, -1);
        CHECK.is("undo() of an edit() to the same", x.undo(), true);
        CHECK.is("the things before are there still", x.count(3), 2);
    }

    private static void runIsUndone() {
        SheetNeeds x = twoCells();
        x.run();
        CHECK.is("state(0)", x.state(0), 0);
        CHECK.is("state(1)", x.state(1), 1);
        x.change(1, 2);
        x.run();
        CHECK.is("at(1)", x.at(1), 5);
        x.undo();
        CHECK.is("state(1) behind undo()", x.state(1), 1);
        CHECK.is("at(0) behind undo()", x.at(0), 10);
        x.undo();
        CHECK.is("the next run works none", x.run(), 0);
        x.undo();
        x.undo();
        CHECK.is("state(0) is new again", x.state(0), 4);
        CHECK.isThrown("at(0) of the new one", IllegalStateException.class, () -> x.at(0));
        CHECK.is("new ones are worked", x.run(), 2);
    }

    private static void whatCellsWereWorkedWith() {
        SheetNeeds x = twoCells();
        x.run();
        x.change(0, 6);
        x.edit(1, 4, 0, -2);
        x.fail(0, true);
        x.run();
        x.undo();
        CHECK.is("all is to be worked again", x.run(), 1);
        x.undo();
        x.undo();
        CHECK.is("cells 0 and 1 by another source and another formula", x.run(), 2);
        CHECK.is("at(1)", x.at(1), 12);
        x.undo();
        x.undo();
        x.undo();
        CHECK.is("all is as it was worked", x.run(), 0);
        CHECK.is("at(0)", x.at(0), 10);
        CHECK.is("state(1)", x.state(1), 1);
        x.fail(0, true);
        x.run();
        x.undo();
        CHECK.is("state(1) is not barred behind undo()", x.state(1), 1);
        x.undo();
        CHECK.is("so nothing is worked", x.run(), 0);
    }

    private static void sixteen() {
        SheetNeeds x = twoCells();
        for (int i = 0; i < 20; i++) {
            x.change(0, 100 + i);
            CHECK.is("count(3) behind " + (i + 1), x.count(3), Math.min(i + 1, 16));
        }
        for (int i = 0; i < 10; i++) {
            CHECK.is("undo() of the ring's newer half", x.undo(), true);
        }
        for (int i = 0; i < 5; i++) {
            x.fail(0, true);
        }
        for (int i = 10; i >= 0; i--) {
            CHECK.is("count(3)", x.count(3), i + 1);
            CHECK.is("undo()", x.undo(), true);
        }
        CHECK.is("no more than sixteen", x.undo(), false);
        CHECK.is("the source as before the sixteenth", x.change(0, 1), 103);
    }

    private static void whatLeavesNothing() {
        SheetNeeds x = twoCells();
        CHECK.is("behind person()", x.undo(), false);
        x.change(0, 1);
        x.source(9);
        CHECK.is("count(3) behind source()", x.count(3), 0);
        CHECK.is("undo() behind source()", x.undo(), false);
        x.change(0, 2);
        x.cell(0, 0, 0);
        CHECK.is("count(3) behind cell()", x.count(3), 0);
        CHECK.is("undo() behind cell()", x.undo(), false);
        x.change(0, 3);
        x.person();
        CHECK.is("count(3) behind person()", x.count(3), 0);
        CHECK.is("undo() behind person()", x.undo(), false);
        CHECK.is("nothing was undone", x.change(0, 4), 3);
        CHECK.is("undo() of what came later", x.undo(), true);
        CHECK.is("undo() behind that", x.undo(), false);
        CHECK.is("the source", x.change(0, 4), 3);
        CHECK.isWrongArgument("a wrong cell()", () -> x.cell(6, 0, 0));
        CHECK.is("leaves what can be undone", x.count(3), 1);
    }

    private static void whatIsNotUndone() {
        SheetNeeds x = twoCells();
        x.run();
        x.change(0, 2);
        x.run();
        CHECK.is("count(5)", x.count(5), 4);
        x.undo();
        CHECK.is("count(5): those of all runs, also of one that was undone", x.count(5), 4);
        x.write(0, 0, 4, -1, -1);
        x.undo();
        CHECK.is("copies stay as they are", x.edits(0), 1);
        x.edit(0, 1, -1, -1);
        CHECK.is("a join() with a clash", x.join(0), 1);
        x.undo();
        CHECK.is("is not what is undone", x.formula(0, 0), 0);
    }

    private static void undoWithoutAThing() {
        SheetNeeds x = twoCells();
        x.run();
        x.source(1);
        CHECK.is("undo()", x.undo(), false);
        CHECK.is("nothing is done: the states stay", x.state(0), 0);
        CHECK.is("and the latest run's cells", x.count(4), 2);
        CHECK.is("worked(1)", x.worked(1), 1);
    }

    private static void circlesFollow() {
        SheetNeeds x = twoCells();
        x.edit(0, 0, 1, 1);
        CHECK.is("circle()", x.circle(), 2);
        x.run();
        CHECK.is("state(0)", x.state(0), 3);
        x.undo();
        CHECK.is("state(0) behind undo() of the run", x.state(0), 4);
        CHECK.is("circle() behind undo() of the run", x.circle(), 2);
        x.undo();
        CHECK.is("circle() behind undo() of the edit", x.circle(), 0);
        CHECK.is("uses(0, 0) behind it", x.uses(0, 0), 0);
        CHECK.isNoIndex("uses(0, 1) behind it", () -> x.uses(0, 1));
        CHECK.is("the next run", x.run(), 2);
    }
}
