/** Undo at its edges: each thing, each of what is brought back, what is no thing, and what leaves nothing to undo. */
public final class UndoEdgesTest {
    private static final Check CHECK = new Check();
    private static final String THINGS =
            "are as before the latest of: change(), edit(), fail(), run(), and join() without clashes";
    private static final String LEAVE = "source(), cell() and person() can not be undone, and nothing behind them can";
    private static final int CHANGE = 0;
    private static final int EDIT = 1;
    private static final int FAIL = 2;
    private static final int RUN = 3;
    private static final int JOIN = 4;
    private static final int KINDS = 5;

    public static void main(String[] args) {
        things();
        whatIsBroughtBack();
        whatIsNoThing();
        whatLeavesNothing();
        CHECK.end();
    }

    private static void things() {
        String[] names = {"change()", "edit()", "fail()", "run()", "join()"};
        for (int i = 0; i < KINDS; i++) {
            int kind = i;
            CHECK.sentence("terms, UNDO, " + names[i], THINGS, () -> allIsAsBefore(kind));
            CHECK.sentence("terms, UNDO, the first of seventeen is " + names[i], "up to 16 of these can be undone",
                    () -> firstOfSeventeen(kind));
            CHECK.sentence("terms, UNDO, the last of seventeen is " + names[i], "the latest first",
                    () -> lastOfSeventeen(kind));
        }
        CHECK.sentence("terms, UNDO, all five", "the latest first", UndoEdgesTest::latestFirst);
        CHECK.sentence("terms, UNDO, to the same", THINGS, UndoEdgesTest::thingsThatAlterNothing);
    }

    private static void whatIsBroughtBack() {
        CHECK.sentence("terms, UNDO, formulas", "UNDO: formulas", UndoEdgesTest::formulas);
        CHECK.sentence("terms, UNDO, sources", "sources' numbers", UndoEdgesTest::sources);
        CHECK.sentence("terms, UNDO, told to fail", "what is told to fail", UndoEdgesTest::told);
        CHECK.sentence("terms, UNDO, states and numbers", "states, numbers", UndoEdgesTest::statesAndNumbers);
        CHECK.sentence("terms, UNDO, worked with: the formula", "what cells were worked with",
                UndoEdgesTest::workedWithFormula);
        CHECK.sentence("terms, UNDO, worked with: told", "what cells were worked with", UndoEdgesTest::workedWithTold);
        CHECK.sentence("terms, UNDO, worked with: numbers", "what cells were worked with",
                UndoEdgesTest::workedWithNumbers);
        CHECK.sentence("terms, UNDO, barred before", "what cells were worked with", UndoEdgesTest::barredBefore);
        CHECK.sentence("terms, UNDO, circles", "UNDO: formulas", UndoEdgesTest::circles);
        CHECK.sentence("terms, UNDO, other things behind it", "the latest first", UndoEdgesTest::goesOnFromThere);
    }

    private static void whatIsNoThing() {
        CHECK.sentence("terms, UNDO", "(Copies stay as they are.)", UndoEdgesTest::copiesStay);
        CHECK.sentence("terms, UNDO, joined", "(Copies stay as they are.)", UndoEdgesTest::joinedCopiesStay);
        CHECK.sentence("terms, UNDO, clashes", "and join() without clashes", UndoEdgesTest::clashingJoin);
        CHECK.sentence("terms, UNDO, refused", THINGS, UndoEdgesTest::refusedThings);
        CHECK.sentence("promise 16, nothing there", "Undoes the latest thing: whether there was one.",
                UndoEdgesTest::nothingThere);
        CHECK.sentence("promise 20, what 3", "things that can be undone (3)", UndoEdgesTest::countsThings);
    }

    private static void whatLeavesNothing() {
        CHECK.sentence("terms, UNDO, source()", LEAVE, UndoEdgesTest::behindSource);
        CHECK.sentence("terms, UNDO, cell()", LEAVE, UndoEdgesTest::behindCell);
        CHECK.sentence("terms, UNDO, person()", LEAVE, UndoEdgesTest::behindPerson);
        CHECK.sentence("terms, UNDO, sixteen behind source()", "they leave nothing to undo.",
                UndoEdgesTest::sixteenBehindSource);
        CHECK.sentence("terms, UNDO, things behind them", "they leave nothing to undo.", UndoEdgesTest::thingsBehind);
    }

    /** Sources 5 and 7, a sum and what uses it, and a copy in which cell 1 is a product. */
    private static SheetNeeds made() {
        SheetNeeds x = Sheets.withSources(5, 7);
        x.cell(0, -1, -2);
        x.cell(0, 0, 0);
        x.person();
        x.write(0, 1, 2, 0, 0);
        return x;
    }

    private static void make(SheetNeeds x, int kind) {
        switch (kind) {
            case CHANGE -> x.change(0, 9);
            case EDIT -> x.edit(0, 4, -1, -1);
            case FAIL -> x.fail(0, true);
            case RUN -> x.run();
            default -> x.join(0);
        }
    }

    private static boolean isMade(SheetNeeds x, int kind) {
        return switch (kind) {
            case CHANGE -> x.change(0, 0) == 9;
            case EDIT -> x.formula(0, 0) == 4;
            case FAIL -> x.fail(0, false);
            case RUN -> x.state(0) != 4;
            default -> x.formula(1, 0) == 2;
        };
    }

    /** What a run worked in all and the edits of a copy are not brought back. */
    private static String lookWithoutTheRest(SheetNeeds x) {
        return Look.at(x).replaceAll("count5 \\d+; ", "").replaceAll("edits \\d+; ", "");
    }

    private static void allIsAsBefore(int kind) {
        for (int runs = 0; runs < 2; runs++) {
            SheetNeeds x = made();
            for (int i = 0; i < runs; i++) {
                x.run();
                x.change(1, 8);
                x.run();
                x.fail(1, true);
                x.undo(); // no cells worked in the latest run from here on
            }
            String before = lookWithoutTheRest(x);
            make(x, kind);
            CHECK.is("undo()", x.undo(), true);
            CHECK.isText("all behind it", lookWithoutTheRest(x), before);
            CHECK.is("the thing itself", isMade(x, kind), kind == RUN && runs > 0);
        }
    }

    private static void firstOfSeventeen(int kind) {
        SheetNeeds x = made();
        make(x, kind);
        for (int i = 0; i < 16; i++) {
            x.change(1, i);
        }
        CHECK.is("count(3)", x.count(3), 16);
        for (int i = 0; i < 16; i++) {
            CHECK.is("undo()", x.undo(), true);
        }
        CHECK.is("undo() of the first", x.undo(), false);
        CHECK.is("source 1 as before the second", x.change(1, 0), 7);
        CHECK.is("the first thing stays", isMade(x, kind), true);
    }

    private static void lastOfSeventeen(int kind) {
        SheetNeeds x = made();
        for (int i = 0; i < 16; i++) {
            x.change(1, 100 + i);
        }
        make(x, kind);
        CHECK.is("count(3)", x.count(3), 16);
        CHECK.is("undo() of the last", x.undo(), true);
        CHECK.is("count(3) behind it", x.count(3), 15);
        for (int i = 0; i < 15; i++) {
            CHECK.is("undo()", x.undo(), true);
        }
        CHECK.is("undo() of the first", x.undo(), false);
        CHECK.is("source 1 as before the second", x.change(1, 0), 100);
        CHECK.is("the last thing is undone", isMade(x, kind), false);
    }

    private static void latestFirst() {
        SheetNeeds x = made();
        for (int kind = 0; kind < KINDS; kind++) {
            make(x, kind);
        }
        CHECK.is("the join", x.formula(1, 0), 2);
        x.undo();
        CHECK.is("the join is undone", x.formula(1, 0), 0);
        CHECK.is("the run is not", x.state(0), 1);
        x.undo();
        CHECK.is("the run is undone", x.state(0), 4);
        x.undo();
        CHECK.is("the fail is undone, the edit is not", x.formula(0, 0), 4);
        x.undo();
        CHECK.is("the edit is undone", x.formula(0, 0), 0);
        x.undo();
        CHECK.is("count(3)", x.count(3), 0);
        x.run();
        CHECK.is("the change is undone, and nothing is told to fail", x.at(0), 12);
    }

    private static void thingsThatAlterNothing() {
        SheetNeeds x = made();
        x.run();
        x.run();
        x.change(0, 5);
        x.edit(0, 0, -1, -2);
        x.fail(0, false);
        x.join(0);
        x.join(0);
        CHECK.is("count(3)", x.count(3), 7);
        for (int i = 6; i >= 0; i--) {
            CHECK.is("undo()", x.undo(), true);
            CHECK.is("count(3)", x.count(3), i);
        }
        CHECK.is("state(0)", x.state(0), 4);
    }

    private static void formulas() {
        SheetNeeds x = made();
        x.edit(1, 5, -1, 1);
        x.undo();
        CHECK.is("op", x.formula(1, 0), 0);
        CHECK.is("a", x.formula(1, 1), 0);
        CHECK.is("b", x.formula(1, 2), 0);
        CHECK.is("uses(1, 1)", x.uses(1, 1), 1);
    }

    private static void sources() {
        SheetNeeds x = made();
        x.change(0, 50);
        x.change(1, 70);
        x.undo();
        x.undo();
        x.run();
        CHECK.is("at(0)", x.at(0), 12);
        CHECK.is("source 0", x.change(0, 0), 5);
        CHECK.is("source 1", x.change(1, 0), 7);
    }

    private static void told() {
        SheetNeeds x = made();
        x.fail(0, true);
        x.fail(0, false);
        x.undo();
        x.run();
        CHECK.is("told", x.state(0), 1);
        x.undo();
        x.undo();
        x.run();
        CHECK.is("not told", x.state(0), 0);
    }

    private static void statesAndNumbers() {
        SheetNeeds x = made();
        x.run();
        x.fail(0, true);
        x.run();
        x.edit(0, 0, 0, 0);
        x.run();
        CHECK.is("state(0) in a circle", x.state(0), 3);
        x.undo();
        CHECK.is("state(0) failing", x.state(0), 1);
        CHECK.is("state(1) barred", x.state(1), 2);
        CHECK.isNotGood("at(0)", () -> x.at(0));
        x.undo();
        x.undo();
        CHECK.is("state(0) good", x.state(0), 0);
        CHECK.is("at(0)", x.at(0), 12);
        CHECK.is("at(1)", x.at(1), 24);
        CHECK.is("count(6)", x.count(6), 2);
        x.undo();
        x.undo();
        CHECK.is("state(0) new", x.state(0), 4);
        CHECK.isNotGood("at(1)", () -> x.at(1));
    }

    private static void workedWithFormula() {
        for (int cell = 0; cell < 2; cell++) { // the first one, which the other one uses, and the last one
            SheetNeeds x = made();
            x.run();
            x.edit(cell, 5, -1, -1);
            CHECK.is("run()", x.run(), 2 - cell);
            x.undo();
            CHECK.is("run() once more", x.run(), 2 - cell);
            x.undo();
            x.undo();
            CHECK.is("run() by the formula that it was worked with", x.run(), 0);
        }
    }

    private static void workedWithTold() {
        for (int cell = 0; cell < 2; cell++) {
            SheetNeeds x = made();
            x.run();
            x.fail(cell, true);
            CHECK.is("run()", x.run(), 1);
            x.undo();
            CHECK.is("run() once more", x.run(), 1);
            x.undo();
            x.undo();
            CHECK.is("run(), told as when it was worked", x.run(), 0);
            CHECK.is("state(" + cell + ")", x.state(cell), 0);
        }
    }

    private static void workedWithNumbers() {
        SheetNeeds x = made();
        x.run();
        x.change(0, 6);
        x.change(1, 8);
        CHECK.is("run()", x.run(), 2);
        x.undo();
        CHECK.is("at(1)", x.at(1), 24);
        CHECK.is("run() once more", x.run(), 2);
        CHECK.is("at(1)", x.at(1), 28);
        x.undo();
        x.undo();
        x.undo();
        CHECK.is("run() with the numbers that it was worked with", x.run(), 0);
        x.change(1, 9);
        CHECK.is("run() by the second operand alone", x.run(), 2);
    }

    private static void barredBefore() {
        SheetNeeds x = made();
        x.run();
        x.fail(0, true);
        x.run();
        x.fail(0, false);
        CHECK.is("run()", x.run(), 2);
        x.undo();
        CHECK.is("state(1) is barred again", x.state(1), 2);
        CHECK.is("run(): it was barred at the run before", x.run(), 2);
        for (int i = 0; i < 4; i++) {
            x.undo();
        }
        CHECK.is("run(): it was never barred", x.run(), 0);
    }

    private static void circles() {
        SheetNeeds x = made();
        x.edit(0, 0, 1, -1);
        CHECK.is("circle()", x.circle(), 2);
        x.edit(1, 0, 1, -1);
        CHECK.is("circle() of one", x.circle(), 1);
        CHECK.is("circleAt(0) of one", x.circleAt(0), 1);
        x.undo();
        CHECK.is("circle() behind undo()", x.circle(), 2);
        CHECK.is("circleAt(0) behind undo()", x.circleAt(0), 0);
        x.undo();
        CHECK.is("circle() behind both", x.circle(), 0);
        CHECK.is("run(): none is in a circle", x.run(), 2);
    }

    private static void goesOnFromThere() {
        SheetNeeds x = made();
        x.change(0, 1);
        x.change(0, 2);
        x.undo();
        x.change(0, 3);
        x.change(0, 4);
        x.undo();
        x.undo();
        CHECK.is("count(3)", x.count(3), 1);
        x.undo();
        CHECK.is("the source", x.change(0, 0), 5);
        CHECK.is("what was undone is gone", x.count(3), 1);
    }

    private static void copiesStay() {
        SheetNeeds x = made();
        x.change(0, 1);
        x.write(0, 0, 1, -1, -2);
        x.undo();
        CHECK.is("edits(0)", x.edits(0), 2);
        CHECK.is("the copy's formula", x.write(0, 0, 1, -1, -2), false);
    }

    private static void joinedCopiesStay() {
        SheetNeeds x = made();
        x.edit(0, 1, -1, -2);
        x.join(0);
        x.undo();
        x.undo();
        CHECK.is("edits(0)", x.edits(0), 0);
        CHECK.is("cell 0 as in the sheet at the join", x.write(0, 0, 1, -1, -2), false);
        CHECK.is("cell 1 as it was joined", x.write(0, 1, 2, 0, 0), false);
        CHECK.is("the sheet's formula", x.formula(1, 0), 0);
        CHECK.is("join(0) without edits", x.join(0), 0);
        CHECK.is("leaves the sheet's formula", x.formula(1, 0), 0);
        CHECK.is("and brings it into the copy", x.write(0, 1, 0, 0, 0), false);
    }

    private static void clashingJoin() {
        SheetNeeds x = made();
        x.edit(1, 4, 0, 0);
        CHECK.is("join(0)", x.join(0), 1);
        CHECK.is("count(3)", x.count(3), 1);
        CHECK.is("undo() of the edit", x.undo(), true);
        CHECK.is("formula(1, 0)", x.formula(1, 0), 0);
        CHECK.is("undo() behind it", x.undo(), false);
    }

    private static void refusedThings() {
        SheetNeeds x = made();
        x.change(0, 6);
        CHECK.isNoIndex("change()", () -> x.change(2, 0));
        CHECK.isNoIndex("edit()", () -> x.edit(2, 0, -1, -1));
        CHECK.isWrongArgument("edit() to no such op", () -> x.edit(0, 6, -1, -1));
        CHECK.isNoIndex("fail()", () -> x.fail(2, true));
        CHECK.isNoIndex("join()", () -> x.join(1));
        CHECK.is("count(3)", x.count(3), 1);
        CHECK.is("undo() of the change", x.undo(), true);
        CHECK.is("the source", x.change(0, 0), 5);
    }

    private static void nothingThere() {
        SheetNeeds x = made();
        x.run();
        x.person();
        String before = Look.at(x);
        CHECK.is("undo()", x.undo(), false);
        CHECK.is("undo() again", x.undo(), false);
        CHECK.isText("all behind them", Look.at(x), before);
    }

    private static void countsThings() {
        SheetNeeds x = made();
        for (int i = 0; i < 20; i++) {
            CHECK.is("count(3)", x.count(3), Math.min(i, 16));
            make(x, i % KINDS);
        }
        CHECK.is("count(3)", x.count(3), 16);
        x.undo();
        CHECK.is("count(3) behind undo()", x.count(3), 15);
        x.run();
        CHECK.is("count(3) behind another thing", x.count(3), 16);
    }

    private static void isNothingLeft(SheetNeeds x) {
        CHECK.is("count(3)", x.count(3), 0);
        CHECK.is("undo()", x.undo(), false);
        CHECK.is("the source stays", x.change(0, 9), 6);
    }

    private static void behindSource() {
        SheetNeeds x = made();
        x.change(0, 6);
        x.source(1);
        isNothingLeft(x);
        x.undo();
        CHECK.is("the source is not undone", x.count(0), 3);
    }

    private static void behindCell() {
        SheetNeeds x = made();
        x.change(0, 6);
        x.cell(0, 2, 2);
        isNothingLeft(x);
        x.undo();
        CHECK.is("the cell is not undone", x.count(1), 3);
    }

    private static void behindPerson() {
        SheetNeeds x = made();
        x.change(0, 6);
        x.person();
        isNothingLeft(x);
        x.undo();
        CHECK.is("the person is not undone", x.count(2), 2);
    }

    private static void sixteenBehindSource() {
        SheetNeeds x = made();
        for (int i = 0; i < 16; i++) {
            x.change(0, i);
        }
        x.source(1);
        CHECK.is("count(3)", x.count(3), 0);
        for (int i = 0; i < 17; i++) {
            x.change(2, 100 + i);
        }
        CHECK.is("count(3) behind seventeen things", x.count(3), 16);
        for (int i = 0; i < 16; i++) {
            CHECK.is("undo()", x.undo(), true);
        }
        CHECK.is("no more", x.undo(), false);
        CHECK.is("source 0", x.change(0, 0), 15);
        CHECK.is("source 2", x.change(2, 0), 100);
    }

    private static void thingsBehind() {
        SheetNeeds x = made();
        x.change(0, 6);
        x.cell(0, -1, -1);
        x.change(0, 8);
        CHECK.is("count(3)", x.count(3), 1);
        CHECK.is("undo()", x.undo(), true);
        CHECK.is("undo() of what was before", x.undo(), false);
        CHECK.is("the source", x.change(0, 0), 6);
        CHECK.is("the new cell is there", x.state(2), 4);
    }
}
