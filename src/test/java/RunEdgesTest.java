/** Runs at their edges: the five states, the order, and each thing by which a cell is worked, or is not. */
public final class RunEdgesTest {
    private static final Check CHECK = new Check();

    public static void main(String[] args) {
        states();
        runs();
        workedOrNot();
        promises();
        CHECK.end();
    }

    private static void states() {
        CHECK.sentence("terms, STATE 0", "0 GOOD, with a number", RunEdgesTest::goodWithZero);
        CHECK.sentence("terms, STATE 1", "1 FAILING (it was worked, and failed; it has no number)",
                RunEdgesTest::failing);
        CHECK.sentence("terms, STATE 2", "2 BARRED (an operand is a cell that is not good)",
                RunEdgesTest::barredByEach);
        CHECK.sentence("terms, STATE 3", "3 in a CIRCLE (it uses itself, by way of any)", RunEdgesTest::inACircle);
        CHECK.sentence("terms, STATE 4", "4 NEW (not looked at by a run yet)", RunEdgesTest::newOnes);
    }

    private static void runs() {
        CHECK.sentence("terms, RUN", "A RUN looks at all cells: those in circles have state 3.",
                RunEdgesTest::circlesAreToldAlways);
        CHECK.sentence("terms, RUN", "again and again the lowest one all of whose operands came or are in circles.",
                RunEdgesTest::lowestOneThatIsReady);
        CHECK.sentence("terms, RUN, the first operand alone", "all of whose operands came",
                RunEdgesTest::waitsForTheFirst);
        CHECK.sentence("terms, RUN, the second operand alone", "all of whose operands came",
                RunEdgesTest::waitsForTheSecond);
        CHECK.sentence("terms, RUN, circles", "or are in circles.", RunEdgesTest::doesNotWaitForCircles);
        CHECK.sentence("terms, RUN", "One that has an operand cell that is not good is barred.",
                RunEdgesTest::barredIsNotWorked);
    }

    private static void workedOrNot() {
        CHECK.sentence("terms, WORKED", "Else it is WORKED, if it is NEW", RunEdgesTest::newIsWorked);
        CHECK.sentence("terms, WORKED, op", "its formula, or whether it is told to fail, is another one",
                RunEdgesTest::otherOp);
        CHECK.sentence("terms, WORKED, a", "its formula, or whether it is told to fail, is another one",
                RunEdgesTest::otherFirst);
        CHECK.sentence("terms, WORKED, b", "its formula, or whether it is told to fail, is another one",
                RunEdgesTest::otherSecond);
        CHECK.sentence("terms, WORKED, there and back", "is another one than when it was worked last",
                RunEdgesTest::thereAndBack);
        CHECK.sentence("terms, WORKED, told", "or whether it is told to fail, is another one", RunEdgesTest::toldOrNot);
        CHECK.sentence("terms, WORKED, told a cell that fails", "or whether it is told to fail",
                RunEdgesTest::toldWhatFails);
        CHECK.sentence("terms, WORKED, barred", "it was barred or in a circle at the run before",
                RunEdgesTest::wasBarred);
        CHECK.sentence("terms, WORKED, circle", "it was barred or in a circle at the run before",
                RunEdgesTest::wasInACircle);
        CHECK.sentence("terms, WORKED, a source", "an operand (a source's number, or a cell's number) is another one",
                RunEdgesTest::otherSource);
        CHECK.sentence("terms, WORKED, a cell", "an operand (a source's number, or a cell's number) is another one",
                RunEdgesTest::otherCellNumber);
        CHECK.sentence("terms, WORKED, an operand that is not looked at",
                "an operand (a source's number, or a cell's number)",
                RunEdgesTest::operandThatDoesNotMatter);
        CHECK.sentence("terms, WORKED", "otherwise it stays as it is.", RunEdgesTest::stays);
        CHECK.sentence("terms, WORKED", "(Of one that was barred what it was when it was worked last does not matter.)",
                RunEdgesTest::whatABarredOneWas);
    }

    private static void promises() {
        CHECK.sentence("promise 5", "A cell has another formula: whether it is another one.",
                RunEdgesTest::editAnswers);
        CHECK.sentence("promise 6", "A cell is told to fail, or not: what it was.", RunEdgesTest::failAnswers);
        CHECK.sentence("promise 7, none", "A run: how many cells were worked.", RunEdgesTest::runThatWorksNone);
        CHECK.sentence("promise 8", "A cell's number by the latest run (also one that changed since).",
                RunEdgesTest::numberOfTheLatestRun);
        CHECK.sentence("promise 9", "A cell's state by the latest run.", RunEdgesTest::stateOfTheLatestRun);
        CHECK.sentence("promise 10", "The k-th cell that was worked in the latest run.",
                RunEdgesTest::workedInTheLatestRun);
        CHECK.sentence("promise 10", "(also behind an undo())", RunEdgesTest::workedBehindUndo);
        CHECK.sentence("promise 20, what 4", "(4; 0 behind an undo())", RunEdgesTest::countBehindUndo);
        CHECK.sentence("promise 20, what 5 behind undo()", "in all runs (5)", RunEdgesTest::countOfAllRuns);
    }

    private static void isStates(SheetNeeds x, int... due) {
        for (int i = 0; i < due.length; i++) {
            CHECK.is("state(" + i + ")", x.state(i), due[i]);
        }
    }

    private static void isWorked(SheetNeeds x, int... due) {
        CHECK.is("run()", x.run(), due.length);
        CHECK.is("count(4)", x.count(4), due.length);
        for (int k = 0; k < due.length; k++) {
            CHECK.is("worked(" + k + ")", x.worked(k), due[k]);
        }
        CHECK.isNoIndex("worked(" + due.length + ")", () -> x.worked(due.length));
    }

    /** Sources 6 and 3; cell 0 is 9, cell 1 is 18, cell 2 is 6. */
    private static SheetNeeds three() {
        SheetNeeds x = Sheets.withSources(6, 3);
        x.cell(0, -1, -2);
        x.cell(0, 0, 0);
        x.cell(4, -1, -2);
        x.run();
        return x;
    }

    private static void goodWithZero() {
        SheetNeeds x = Sheets.withSources(0);
        x.cell(0, -1, -1);
        x.cell(1, 0, 0);
        x.run();
        isStates(x, 0, 0);
        CHECK.is("at(0)", x.at(0), 0);
        CHECK.is("at(1)", x.at(1), 0);
    }

    private static void failing() {
        SheetNeeds x = three();
        x.edit(2, 3, -1, -2);
        isWorked(x, 2);
        CHECK.is("at(2)", x.at(2), 2);
        x.change(1, 0);
        isWorked(x, 0, 1, 2);
        isStates(x, 0, 0, 1);
        CHECK.isNotGood("at(2): it has no number, though it had one", () -> x.at(2));
        CHECK.is("count(7)", x.count(7), 1);
    }

    private static void barredByEach() {
        SheetNeeds x = Sheets.withSources(1);
        x.cell(0, -1, -1); // 0 good
        x.cell(0, -1, -1); // 1 failing
        x.cell(0, 2, 2); // 2 in a circle
        x.cell(0, 1, 0); // 3 by a failing one
        x.cell(0, 0, 1); // 4 by a failing one as the second operand
        x.cell(0, 2, -1); // 5 by one in a circle
        x.cell(0, -1, 2); // 6 by one in a circle as the second operand
        x.cell(0, 3, 0); // 7 by a barred one
        x.cell(0, 0, 3); // 8 by a barred one as the second operand
        x.cell(5, 0, 1); // 9 though the first operand would do
        x.cell(0, 0, 0); // 10 good
        x.fail(1, true);
        isWorked(x, 0, 1, 10);
        isStates(x, 0, 1, 3, 2, 2, 2, 2, 2, 2, 2, 0);
        CHECK.is("count(8)", x.count(8), 7);
    }

    private static void inACircle() {
        SheetNeeds x = Sheets.plain(9);
        x.edit(0, 0, 0, -1); // itself as the first operand
        x.edit(1, 0, -1, 1); // itself as the second operand
        x.edit(2, 0, 3, -1); // by way of one
        x.edit(3, 0, -1, 2);
        x.edit(4, 0, 5, 6); // by way of two, in one of two ways
        x.edit(5, 0, 6, -1);
        x.edit(6, 0, -1, 4);
        x.edit(7, 0, 6, 0); // uses circles, and is in none
        isWorked(x, 8);
        isStates(x, 3, 3, 3, 3, 3, 3, 3, 2, 0);
        CHECK.is("count(9)", x.count(9), 7);
    }

    private static void newOnes() {
        SheetNeeds x = Sheets.withSources(1, 0);
        x.cell(0, -1, -1);
        x.cell(3, -1, -2);
        x.cell(0, 1, 1);
        x.cell(0, 3, 3);
        isStates(x, 4, 4, 4, 4);
        x.change(0, 2);
        x.edit(0, 1, -1, -1);
        x.fail(0, false);
        isStates(x, 4, 4, 4, 4);
        x.run();
        isStates(x, 0, 1, 2, 3);
        x.cell(0, -1, -1);
        isStates(x, 0, 1, 2, 3, 4);
        CHECK.is("the states that are counted", x.count(6) + x.count(7) + x.count(8) + x.count(9), 4);
    }

    private static void circlesAreToldAlways() {
        SheetNeeds x = three();
        x.edit(0, 0, 1, -1);
        x.fail(0, true);
        x.fail(1, true);
        isWorked(x);
        isStates(x, 3, 3, 0);
        isWorked(x);
        isStates(x, 3, 3, 0);
    }

    private static void lowestOneThatIsReady() {
        SheetNeeds x = Sheets.plain(7);
        x.edit(0, 0, 6, -1);
        x.edit(1, 0, 3, -1);
        x.edit(3, 0, 5, -1);
        x.edit(4, 0, 0, -1);
        isWorked(x, 2, 5, 3, 1, 6, 0, 4);
    }

    private static void waitsForTheFirst() {
        SheetNeeds x = Sheets.plain(3);
        x.edit(0, 0, 2, -1);
        isWorked(x, 1, 2, 0);
        CHECK.is("at(0)", x.at(0), 3);
    }

    private static void waitsForTheSecond() {
        SheetNeeds x = Sheets.plain(3);
        x.edit(0, 0, 1, 2);
        isWorked(x, 1, 2, 0);
        CHECK.is("at(0)", x.at(0), 4);
    }

    private static void doesNotWaitForCircles() {
        SheetNeeds x = Sheets.plain(4);
        x.edit(0, 0, 3, 1);
        x.edit(3, 0, 3, 3);
        isWorked(x, 1, 2);
        isStates(x, 2, 0, 0, 3);
    }

    private static void barredIsNotWorked() {
        SheetNeeds x = three();
        x.fail(0, true);
        x.fail(1, true);
        x.edit(1, 4, 0, -1);
        isWorked(x, 0);
        isStates(x, 1, 2, 0);
        x.change(0, 7);
        isWorked(x, 0, 2);
        isStates(x, 1, 2, 0);
        CHECK.is("count(5)", x.count(5), 3 + 1 + 2);
    }

    private static void newIsWorked() {
        SheetNeeds x = three();
        x.cell(0, -1, -2);
        isWorked(x, 3);
        isWorked(x);
    }

    private static void otherOp() {
        SheetNeeds x = three();
        x.edit(2, 5, -1, -2);
        isWorked(x, 2);
        CHECK.is("at(2) is the same", x.at(2), 6);
        isWorked(x);
    }

    private static void otherFirst() {
        SheetNeeds x = three();
        x.change(1, 6);
        x.run();
        x.edit(2, 4, -2, -2);
        isWorked(x, 2);
        CHECK.is("at(2) is the same", x.at(2), 6);
        isWorked(x);
    }

    private static void otherSecond() {
        SheetNeeds x = three();
        x.change(1, 6);
        x.run();
        x.edit(2, 4, -1, -1);
        isWorked(x, 2);
        CHECK.is("at(2) is the same", x.at(2), 6);
        isWorked(x);
    }

    private static void thereAndBack() {
        SheetNeeds x = three();
        x.edit(2, 0, -2, -2);
        x.edit(2, 4, -1, -2);
        x.edit(0, 0, 1, 1);
        x.edit(0, 0, -1, -2);
        x.fail(1, true);
        x.fail(1, false);
        x.change(0, 0);
        x.change(0, 6);
        isWorked(x);
        isStates(x, 0, 0, 0);
        x.edit(2, 0, -2, -2);
        isWorked(x, 2);
        x.edit(2, 4, -1, -2);
        isWorked(x, 2);
    }

    private static void toldOrNot() {
        SheetNeeds x = three();
        x.fail(2, true);
        isWorked(x, 2);
        isStates(x, 0, 0, 1);
        isWorked(x);
        x.fail(2, false);
        isWorked(x, 2);
        CHECK.is("at(2)", x.at(2), 6);
    }

    private static void toldWhatFails() {
        SheetNeeds x = Sheets.withSources(1, 0);
        x.cell(3, -1, -2);
        isWorked(x, 0);
        x.fail(0, true);
        isWorked(x, 0);
        isStates(x, 1);
        x.fail(0, false);
        isWorked(x, 0);
        isStates(x, 1);
    }

    private static void wasBarred() {
        SheetNeeds x = three();
        x.fail(0, true);
        isWorked(x, 0);
        x.fail(0, false);
        isWorked(x, 0, 1);
        CHECK.is("at(1)", x.at(1), 18);
        isWorked(x);
        x.edit(1, 0, 2, 2);
        isWorked(x, 1);
        x.fail(2, true);
        isWorked(x, 2);
        x.edit(1, 0, 0, 0); // not barred any more, though the failing one fails still
        isWorked(x, 1);
        isStates(x, 0, 0, 1);
    }

    private static void wasInACircle() {
        SheetNeeds x = three();
        x.edit(0, 0, 0, -2);
        isWorked(x);
        isStates(x, 3, 2, 0);
        x.edit(0, 0, -1, -2);
        isWorked(x, 0, 1);
        isStates(x, 0, 0, 0);
        CHECK.is("at(1)", x.at(1), 18);
    }

    private static void otherSource() {
        SheetNeeds x = three();
        x.change(0, 7);
        isWorked(x, 0, 1, 2);
        x.change(1, 4);
        isWorked(x, 0, 1, 2);
        CHECK.is("at(1)", x.at(1), 22);
        x.change(1, 4);
        isWorked(x);
    }

    private static void otherCellNumber() {
        SheetNeeds x = three();
        x.change(0, 5);
        x.change(1, 4);
        isWorked(x, 0, 2);
        CHECK.is("at(0) is the same, so cell 1 is not worked", x.at(0), 9);
        x.edit(0, 1, -1, -2);
        isWorked(x, 0, 1);
        CHECK.is("at(1)", x.at(1), 2);
    }

    private static void operandThatDoesNotMatter() {
        SheetNeeds x = Sheets.withSources(6, 3);
        x.cell(5, -1, -2);
        x.run();
        x.change(1, 4);
        isWorked(x, 0);
        CHECK.is("at(0)", x.at(0), 6);
        x.fail(0, true);
        isWorked(x, 0);
        x.change(0, 7);
        isWorked(x, 0);
        isStates(x, 1);
    }

    private static void stays() {
        SheetNeeds x = three();
        x.edit(2, 3, -1, 1);
        x.edit(1, 1, 0, 0);
        isWorked(x, 1, 2);
        isWorked(x);
        isStates(x, 0, 0, 1);
        CHECK.is("at(0)", x.at(0), 9);
        CHECK.is("at(1)", x.at(1), 0);
        CHECK.isNotGood("at(2)", () -> x.at(2));
    }

    private static void whatABarredOneWas() {
        SheetNeeds x = three();
        x.edit(1, 5, -1, 0);
        isWorked(x, 1);
        x.fail(0, true);
        isWorked(x, 0);
        isWorked(x); // barred at two runs
        isStates(x, 1, 2, 0);
        x.fail(0, false);
        isWorked(x, 0, 1);
        CHECK.is("at(1)", x.at(1), 6);
    }

    private static void editAnswers() {
        SheetNeeds x = three();
        CHECK.is("the same", x.edit(2, 4, -1, -2), false);
        CHECK.is("another op", x.edit(2, 5, -1, -2), true);
        CHECK.is("back", x.edit(2, 4, -1, -2), true);
        CHECK.is("another a", x.edit(2, 4, -2, -2), true);
        CHECK.is("another b", x.edit(2, 4, -2, -1), true);
        CHECK.is("itself", x.edit(2, 4, 2, 2), true);
        CHECK.is("the same again", x.edit(2, 4, 2, 2), false);
        isWorked(x);
    }

    private static void failAnswers() {
        SheetNeeds x = three();
        CHECK.is("off when off", x.fail(2, false), false);
        CHECK.is("on when off", x.fail(2, true), false);
        CHECK.is("on when on", x.fail(2, true), true);
        CHECK.is("another cell", x.fail(1, false), false);
        x.run();
        CHECK.is("off when on, behind a run", x.fail(2, false), true);
        CHECK.is("off when off again", x.fail(2, false), false);
    }

    private static void runThatWorksNone() {
        SheetNeeds x = three();
        isWorked(x);
        CHECK.is("count(3): it can be undone, too", x.count(3), 2);
        CHECK.is("count(5)", x.count(5), 3);
    }

    private static void numberOfTheLatestRun() {
        SheetNeeds x = three();
        x.change(0, 100);
        CHECK.is("behind a change", x.at(0), 9);
        x.edit(0, 1, -1, -2);
        CHECK.is("behind an edit", x.at(0), 9);
        x.edit(0, 3, 0, 0);
        CHECK.is("behind an edit to a circle", x.at(0), 9);
        x.fail(0, true);
        CHECK.is("behind being told to fail", x.at(0), 9);
        x.cell(0, -1, -1);
        CHECK.is("behind a new cell", x.at(0), 9);
        CHECK.isNotGood("the new cell", () -> x.at(3));
        x.run();
        CHECK.isNotGood("behind the next run", () -> x.at(0));
    }

    private static void stateOfTheLatestRun() {
        SheetNeeds x = three();
        x.edit(0, 0, 0, 0);
        x.fail(2, true);
        isStates(x, 0, 0, 0);
        x.run();
        isStates(x, 3, 2, 1);
        x.edit(0, 0, -1, -1);
        x.fail(2, false);
        isStates(x, 3, 2, 1);
        x.run();
        isStates(x, 0, 0, 0);
    }

    private static void workedInTheLatestRun() {
        SheetNeeds x = three();
        x.edit(2, 0, -1, -1);
        CHECK.is("worked(2) of the run before", x.worked(2), 2);
        x.cell(0, -1, -1);
        CHECK.is("count(4) behind a new cell", x.count(4), 3);
        isWorked(x, 2, 3);
        isWorked(x);
    }

    private static void workedBehindUndo() {
        SheetNeeds x = three();
        x.run();
        x.change(0, 5);
        x.run();
        x.fail(0, true);
        x.undo();
        CHECK.isNoIndex("worked(0) behind undo() of fail()", () -> x.worked(0));
        x.undo();
        CHECK.isNoIndex("worked(0) behind undo() of run()", () -> x.worked(0));
        isWorked(x, 0, 1, 2);
    }

    private static void countBehindUndo() {
        SheetNeeds x = three();
        x.change(0, 5);
        CHECK.is("count(4) before", x.count(4), 3);
        x.undo();
        CHECK.is("count(4) behind undo() of change()", x.count(4), 0);
        x.cell(0, -1, -1);
        CHECK.is("count(4) behind a new cell", x.count(4), 0);
        x.run();
        CHECK.is("count(4) behind the next run", x.count(4), 1);
        x.undo();
        CHECK.is("count(4) behind undo() of run()", x.count(4), 0);
    }

    private static void countOfAllRuns() {
        SheetNeeds x = three();
        x.undo();
        CHECK.is("count(5) behind undo()", x.count(5), 3);
        x.run();
        CHECK.is("count(5) behind the run once more", x.count(5), 6);
    }
}
