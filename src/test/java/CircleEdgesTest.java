/** What is used, and circles, at their edges. */
public final class CircleEdgesTest {
    private static final Check CHECK = new Check();
    private static final String USES =
            "The k-th source, by number, that a cell's formula as it is uses, by way of any cells.";
    private static final String SHORTEST = "The length of the shortest circle by formulas as they are; 0 without.";
    private static final String BEGINS = "it begins with the lowest cell that is in one of that length";
    private static final String NEXT = "each uses the next one, the lowest one by which it can be closed in time.";

    public static void main(String[] args) {
        CHECK.sentence("promise 17, by number", USES, CircleEdgesTest::byNumber);
        CHECK.sentence("promise 17, used twice", USES, CircleEdgesTest::usedTwice);
        CHECK.sentence("promise 17, as it is", USES, CircleEdgesTest::asItIs);
        CHECK.sentence("promise 17, failing and barred ones", USES, CircleEdgesTest::whateverTheState);
        CHECK.sentence("promise 17, by way of circles", USES, CircleEdgesTest::byWayOfCircles);
        CHECK.sentence("promise 17, the other way round", USES, CircleEdgesTest::notByThoseThatUseIt);
        CHECK.sentence("promise 18, one cell", SHORTEST, CircleEdgesTest::oneCell);
        CHECK.sentence("promise 18, two cells", SHORTEST, CircleEdgesTest::twoCells);
        CHECK.sentence("promise 18, the shortest of several", SHORTEST, CircleEdgesTest::shortestOfSeveral);
        CHECK.sentence("promise 18, formulas as they are", SHORTEST, CircleEdgesTest::asFormulasAre);
        CHECK.sentence("promise 18, not by the run", SHORTEST, CircleEdgesTest::notByTheRun);
        CHECK.sentence("promise 19, the lowest of that length", BEGINS, CircleEdgesTest::lowestOfThatLength);
        CHECK.sentence("promise 19, not the lowest of a longer one", BEGINS, CircleEdgesTest::notOfALongerOne);
        CHECK.sentence("promise 19, not one that leads there", BEGINS, CircleEdgesTest::notOneThatLeadsThere);
        CHECK.sentence("promise 19, the first operand is lower", NEXT, () -> twoWays(1, 2));
        CHECK.sentence("promise 19, the second operand is lower", NEXT, () -> twoWays(2, 1));
        CHECK.sentence("promise 19, the lower one comes too late", NEXT, CircleEdgesTest::lowerOneTooLate);
        CHECK.sentence("promise 19, the lower one does not come back", NEXT, CircleEdgesTest::lowerOneNeverBack);
        CHECK.sentence("promise 19, the choice is made again at each cell", NEXT, CircleEdgesTest::choiceAtEachCell);
        CHECK.sentence("promise 19, the last one", "IndexOutOfBoundsException, when there is none.",
                CircleEdgesTest::lastOne);
        CHECK.end();
    }

    private static void isUses(SheetNeeds x, int cell, int... due) {
        for (int k = 0; k < due.length; k++) {
            CHECK.is("uses(" + cell + ", " + k + ")", x.uses(cell, k), due[k]);
        }
        CHECK.isNoIndex("uses(" + cell + ", " + due.length + ")", () -> x.uses(cell, due.length));
        CHECK.isNoIndex("uses(" + cell + ", -1)", () -> x.uses(cell, -1));
    }

    private static void isCircle(SheetNeeds x, int... due) {
        CHECK.is("circle()", x.circle(), due.length);
        for (int k = 0; k < due.length; k++) {
            CHECK.is("circleAt(" + k + ")", x.circleAt(k), due[k]);
        }
        CHECK.isNoIndex("circleAt(" + due.length + ")", () -> x.circleAt(due.length));
        CHECK.isNoIndex("circleAt(-1)", () -> x.circleAt(-1));
    }

    private static void byNumber() {
        SheetNeeds x = Sheets.withSources(9, 8, 7, 6);
        x.cell(0, -4, -1);
        x.cell(0, 0, -3);
        isUses(x, 0, 0, 3);
        isUses(x, 1, 0, 2, 3);
    }

    private static void usedTwice() {
        SheetNeeds x = Sheets.withSources(1, 2);
        x.cell(0, -2, -2);
        x.cell(0, 0, -2);
        isUses(x, 0, 1);
        isUses(x, 1, 1);
    }

    private static void asItIs() {
        SheetNeeds x = Sheets.withSources(1, 2);
        x.cell(0, -1, -1);
        x.cell(0, 0, 0);
        x.person();
        x.run();
        x.edit(0, 0, -2, -2);
        isUses(x, 1, 1);
        x.undo();
        isUses(x, 1, 0);
        x.write(0, 0, 0, -1, -2);
        isUses(x, 1, 0);
        x.join(0);
        isUses(x, 1, 0, 1);
    }

    private static void whateverTheState() {
        SheetNeeds x = Sheets.withSources(1, 0);
        x.cell(3, -1, -2);
        x.cell(0, 0, 0);
        isUses(x, 1, 0, 1);
        x.fail(0, true);
        x.run();
        isUses(x, 0, 0, 1);
        isUses(x, 1, 0, 1);
    }

    private static void byWayOfCircles() {
        SheetNeeds x = Sheets.withSources(1, 2, 3);
        x.cell(0, 0, -3);
        x.cell(0, 0, -1);
        x.edit(0, 0, 1, -3);
        isUses(x, 0, 0, 2);
        isUses(x, 1, 0, 2);
        x.edit(1, 0, 1, 0);
        isUses(x, 1, 2);
    }

    private static void notByThoseThatUseIt() {
        SheetNeeds x = Sheets.withSources(1, 2);
        x.cell(0, -1, -1);
        x.cell(0, 0, -2);
        isUses(x, 0, 0);
    }

    private static void oneCell() {
        SheetNeeds x = Sheets.plain(3);
        x.edit(1, 0, 1, -1);
        isCircle(x, 1);
        x.edit(1, 0, -1, 1);
        isCircle(x, 1);
        x.edit(1, 0, 1, 1);
        isCircle(x, 1);
    }

    private static void twoCells() {
        SheetNeeds x = Sheets.plain(3);
        x.edit(0, 0, 2, -1);
        isCircle(x);
        x.edit(2, 0, -1, 0);
        isCircle(x, 0, 2);
    }

    private static void shortestOfSeveral() {
        SheetNeeds x = Sheets.plain(9);
        for (int i = 0; i < 4; i++) {
            x.edit(i, 0, (i + 1) % 4, -1);
        }
        isCircle(x, 0, 1, 2, 3);
        x.edit(4, 0, 5, -1);
        x.edit(5, 0, 6, -1);
        x.edit(6, 0, 4, -1);
        isCircle(x, 4, 5, 6);
        x.edit(7, 0, 8, -1);
        x.edit(8, 0, 7, -1);
        isCircle(x, 7, 8);
        x.edit(6, 0, 4, 6);
        isCircle(x, 6);
    }

    private static void asFormulasAre() {
        SheetNeeds x = Sheets.plain(2);
        x.person();
        x.write(0, 0, 0, 0, 0);
        isCircle(x);
        x.join(0);
        isCircle(x, 0);
        x.undo();
        isCircle(x);
        x.cell(0, 2, -1);
        isCircle(x, 2);
        x.edit(2, 0, -1, -1);
        isCircle(x);
    }

    private static void notByTheRun() {
        SheetNeeds x = Sheets.plain(2);
        x.run();
        x.edit(0, 0, 1, 1);
        x.edit(1, 0, 0, 0);
        isCircle(x, 0, 1);
        CHECK.is("state(0)", x.state(0), 0);
        x.run();
        x.edit(1, 0, -1, -1);
        isCircle(x);
        CHECK.is("state(0) by the run", x.state(0), 3);
    }

    private static void lowestOfThatLength() {
        SheetNeeds x = Sheets.plain(6);
        x.edit(5, 0, 3, -1);
        x.edit(3, 0, 5, -1);
        isCircle(x, 3, 5);
        x.edit(4, 0, 1, -1);
        x.edit(1, 0, 4, -1);
        isCircle(x, 1, 4);
    }

    private static void notOfALongerOne() {
        SheetNeeds x = Sheets.plain(5);
        x.edit(0, 0, 1, -1);
        x.edit(1, 0, 2, -1);
        x.edit(2, 0, 0, -1);
        x.edit(3, 0, 4, -1);
        x.edit(4, 0, 3, -1);
        isCircle(x, 3, 4);
    }

    private static void notOneThatLeadsThere() {
        SheetNeeds x = Sheets.plain(4);
        x.edit(0, 0, 1, -1);
        x.edit(1, 0, 3, -1);
        x.edit(2, 0, 3, -1);
        x.edit(3, 0, 2, -1);
        isCircle(x, 2, 3);
    }

    /** Cell 0 uses cells 1 and 2, and both use it. */
    private static void twoWays(int a, int b) {
        SheetNeeds x = Sheets.plain(3);
        x.edit(0, 0, a, b);
        x.edit(1, 0, 0, -1);
        x.edit(2, 0, -1, 0);
        isCircle(x, 0, 1);
    }

    private static void lowerOneTooLate() {
        SheetNeeds x = Sheets.plain(5);
        x.edit(0, 0, 1, 3); // by 1 and 2 it takes four, by 3 and 4 three
        x.edit(1, 0, 2, -1);
        x.edit(2, 0, 4, -1);
        x.edit(3, 0, 4, -1);
        x.edit(4, 0, 0, -1);
        isCircle(x, 0, 3, 4);
    }

    private static void lowerOneNeverBack() {
        SheetNeeds x = Sheets.plain(5);
        x.edit(0, 0, 1, 3);
        x.edit(1, 0, 2, -1);
        x.edit(3, 0, 2, 4);
        x.edit(4, 0, 0, -1);
        isCircle(x, 0, 3, 4);
    }

    private static void choiceAtEachCell() {
        SheetNeeds x = Sheets.plain(8);
        x.edit(0, 0, 5, 4);
        x.edit(4, 0, 7, 6);
        x.edit(5, 0, 2, 3);
        x.edit(2, 0, 0, -1);
        x.edit(3, 0, 0, -1);
        x.edit(6, 0, 0, -1);
        x.edit(7, 0, 0, -1);
        isCircle(x, 0, 4, 6); // not 0 5 2: the lower next cell goes before what follows it
    }

    private static void lastOne() {
        SheetNeeds x = Sheets.of(1, 7, 0);
        x.edit(0, 0, 6, 6);
        CHECK.is("circleAt(6)", x.circleAt(6), 1);
        CHECK.isNoIndex("circleAt(7)", () -> x.circleAt(7));
    }
}
