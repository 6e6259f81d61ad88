/** Promises 7 to 10: what a run works, in which order, and what it leaves. */
public final class RunTest {
    private static final Check CHECK = new Check();

    public static void main(String[] args) {
        ops();
        onlyWhatChanged();
        sameNumberStopsThere();
        thereAndBackIsNoChange();
        toldToFail();
        failingStays();
        barred();
        barredIsWorkedAgain();
        circles();
        order();
        orderRoundCircles();
        promise8At();
        promise9State();
        promise10Worked();
        CHECK.end();
    }

    private static long result(int op, long a, long b) {
        SheetNeeds x = new SheetNeeds();
        x.source(a);
        x.source(b);
        x.cell(op, -1, -2);
        CHECK.is("run() of one cell", x.run(), 1);
        return x.at(0);
    }

    private static void ops() {
        CHECK.is("7 + -9", result(0, 7, -9), -2);
        CHECK.is("a sum beyond 64 bits", result(0, Long.MAX_VALUE, 1), Long.MIN_VALUE);
        CHECK.is("7 - -9", result(1, 7, -9), 16);
        CHECK.is("a difference beyond 64 bits", result(1, Long.MIN_VALUE, 1), Long.MAX_VALUE);
        CHECK.is("7 * -9", result(2, 7, -9), -63);
        CHECK.is("a product beyond 64 bits", result(2, 1L << 40, (1L << 24) + 1), 1L << 40);
        CHECK.is("7 / 2", result(3, 7, 2), 3);
        CHECK.is("-7 / 2", result(3, -7, 2), -3);
        CHECK.is("7 / -2", result(3, 7, -2), -3);
        CHECK.is("-7 / -2", result(3, -7, -2), 3);
        CHECK.is("0 / 5", result(3, 0, 5), 0);
        CHECK.is("the lowest / -1", result(3, Long.MIN_VALUE, -1), Long.MIN_VALUE);
        CHECK.is("the greater of 2, 3", result(4, 2, 3), 3);
        CHECK.is("the greater of 3, 2", result(4, 3, 2), 3);
        CHECK.is("the greater of the extremes", result(4, Long.MIN_VALUE, Long.MAX_VALUE), Long.MAX_VALUE);
        CHECK.is("the greater of -5, -4", result(4, -5, -4), -4);
        CHECK.is("4 else 6", result(5, 4, 6), 4);
        CHECK.is("-4 else 6", result(5, -4, 6), -4);
        CHECK.is("0 else 6", result(5, 0, 6), 6);
        CHECK.is("0 else 0", result(5, 0, 0), 0);
    }

    private static SheetNeeds chain() {
        SheetNeeds x = new SheetNeeds();
        x.source(10);
        x.source(20);
        x.cell(0, -1, -2); // 0: 30
        x.cell(2, 0, 0); // 1: 900
        x.cell(1, 1, -1); // 2: 890
        x.cell(4, -2, -2); // 3: 20
        x.run();
        return x;
    }

    private static void onlyWhatChanged() {
        SheetNeeds x = chain();
        CHECK.is("the first run works all", x.count(4), 4);
        CHECK.is("the second run works none", x.run(), 0);
        x.change(0, 11);
        CHECK.is("a change works what uses it", x.run(), 3);
        CHECK.is("at(2)", x.at(2), 31 * 31 - 11);
        CHECK.is("at(3)", x.at(3), 20);
        x.edit(1, 0, 0, 0);
        CHECK.is("an edit works the cell and what uses it", x.run(), 2);
        CHECK.is("worked(0)", x.worked(0), 1);
        CHECK.is("worked(1)", x.worked(1), 2);
        x.cell(0, 2, 3);
        CHECK.is("a new cell is worked", x.run(), 1);
        CHECK.is("worked(0) is the new one", x.worked(0), 4);
        CHECK.is("count(5)", x.count(5), 4 + 0 + 3 + 2 + 1);
    }

    private static void sameNumberStopsThere() {
        SheetNeeds x = chain();
        x.change(0, 20);
        x.change(1, 10);
        CHECK.is("a sum of the same: what uses it alone is not worked", x.run(), 3);
        CHECK.is("worked(0)", x.worked(0), 0);
        CHECK.is("worked(1)", x.worked(1), 2);
        CHECK.is("worked(2)", x.worked(2), 3);
        x.edit(0, 4, 0, 0);
        x.edit(0, 0, -2, -1);
        CHECK.is("operands that changed places make another formula", x.run(), 1);
    }

    private static void thereAndBackIsNoChange() {
        SheetNeeds x = chain();
        x.change(0, 99);
        x.change(0, 10);
        x.edit(1, 5, -1, -1);
        x.edit(1, 2, 0, 0);
        x.fail(3, true);
        x.fail(3, false);
        CHECK.is("what was there and back is not worked", x.run(), 0);
        x.edit(3, 5, -2, -2);
        CHECK.is("another formula is worked though its number is the same", x.run(), 1);
        CHECK.is("at(3)", x.at(3), 20);
    }

    private static void toldToFail() {
        SheetNeeds x = chain();
        x.fail(0, true);
        CHECK.is("a cell told to fail is worked", x.run(), 1);
        CHECK.is("it fails", x.state(0), 1);
        CHECK.is("what uses it is barred", x.state(1), 2);
        CHECK.is("and what uses that", x.state(2), 2);
        CHECK.is("others are good", x.state(3), 0);
        x.fail(0, false);
        CHECK.is("told no more, it is worked with what was barred", x.run(), 3);
        CHECK.is("at(2)", x.at(2), 890);
    }

    private static void failingStays() {
        SheetNeeds x = new SheetNeeds();
        x.source(1);
        x.source(0);
        x.cell(3, -1, -2);
        CHECK.is("a failing cell counts as worked", x.run(), 1);
        CHECK.is("b is 0", x.state(0), 1);
        CHECK.is("nothing changed: it is not worked again", x.run(), 0);
        CHECK.is("it stays failing", x.state(0), 1);
        x.change(0, 2);
        CHECK.is("an operand changed", x.run(), 1);
        CHECK.is("it fails again", x.state(0), 1);
        x.fail(0, true);
        CHECK.is("told to fail, it is worked", x.run(), 1);
        x.change(1, 1);
        CHECK.is("it is told still", x.run(), 1);
        CHECK.is("and fails", x.state(0), 1);
        x.fail(0, false);
        CHECK.is("told no more", x.run(), 1);
        CHECK.is("at(0)", x.at(0), 2);
        x.edit(0, 0, -1, -1);
        x.change(1, 0);
        CHECK.is("only op 3 fails", x.run(), 1);
        CHECK.is("at(0) of the sum", x.at(0), 4);
    }

    private static void barred() {
        SheetNeeds x = new SheetNeeds();
        x.source(1);
        x.cell(0, -1, -1);
        x.cell(5, -1, 0);
        x.cell(5, 0, -1);
        x.cell(4, 1, 2);
        x.fail(0, true);
        x.fail(3, true);
        CHECK.is("only the failing one is worked", x.run(), 1);
        CHECK.is("barred by the second operand, though the first is not 0", x.state(1), 2);
        CHECK.is("barred by the first operand", x.state(2), 2);
        CHECK.is("barred, though told to fail", x.state(3), 2);
        CHECK.is("run() again", x.run(), 0);
        CHECK.is("it stays barred", x.state(1), 2);
    }

    private static void barredIsWorkedAgain() {
        SheetNeeds x = chain();
        x.fail(0, true);
        x.run();
        x.fail(0, false);
        x.run();
        CHECK.is("worked, though all is as it was when it was worked last", x.count(4), 3);
        x.edit(1, 0, 1, 1);
        x.run();
        CHECK.is("in a circle", x.state(1), 3);
        x.edit(1, 2, 0, 0);
        CHECK.is("out of the circle it is worked, and what was barred", x.run(), 2);
        CHECK.is("at(1)", x.at(1), 900);
        CHECK.is("at(2)", x.at(2), 890);
    }

    private static void circles() {
        SheetNeeds x = new SheetNeeds();
        x.source(1);
        x.cell(0, -1, -1); // 0
        x.cell(0, 0, 0); // 1
        x.cell(0, 1, 0); // 2
        x.cell(0, 2, 0); // 3
        x.cell(0, 4, -1); // 4 uses itself
        x.cell(0, 4, 3); // 5
        x.edit(1, 0, 3, 0);
        CHECK.is("only cell 0 can be worked", x.run(), 1);
        int[] due = {0, 3, 3, 3, 3, 2};
        for (int i = 0; i < due.length; i++) {
            CHECK.is("state(" + i + ")", x.state(i), due[i]);
        }
        x.fail(2, true);
        CHECK.is("a circle is not worked", x.run(), 0);
        CHECK.is("nor does it fail", x.state(2), 3);
        // Cells 0 and 2 use themselves; cell 1 uses the one and is used by the other.
        SheetNeeds y = new SheetNeeds();
        y.cell(0, 0, 0);
        y.cell(0, 0, 0);
        y.cell(0, 1, 2);
        y.run();
        CHECK.is("one between two circles is barred", y.state(1), 2);
        CHECK.is("one that is in a circle and uses a barred one", y.state(2), 3);
    }

    private static void order() {
        SheetNeeds x = new SheetNeeds();
        x.source(1);
        x.cell(0, -1, -1); // 0, later behind 3
        x.cell(0, -1, -1); // 1
        x.cell(0, -1, -1); // 2, later behind 4
        x.cell(0, 1, -1); // 3
        x.cell(0, -1, -1); // 4
        x.edit(0, 0, 3, 3);
        x.edit(2, 0, 4, 0);
        CHECK.is("run()", x.run(), 5);
        int[] due = {1, 3, 0, 4, 2};
        for (int k = 0; k < due.length; k++) {
            CHECK.is("worked(" + k + ")", x.worked(k), due[k]);
        }
    }

    private static void orderRoundCircles() {
        SheetNeeds x = new SheetNeeds();
        x.source(1);
        x.cell(0, -1, -1); // 0 uses 1
        x.cell(0, -1, -1); // 1 uses 2, the circle
        x.cell(0, 2, 2); // 2
        x.cell(0, -1, -1); // 3 uses 4
        x.cell(0, -1, -1); // 4
        x.edit(0, 0, 1, 1);
        x.edit(1, 0, 2, 2);
        x.edit(3, 0, 4, 4);
        CHECK.is("run()", x.run(), 2);
        CHECK.is("worked(0)", x.worked(0), 4);
        CHECK.is("worked(1)", x.worked(1), 3);
        CHECK.is("state(0)", x.state(0), 2);
        CHECK.is("state(1)", x.state(1), 2);
    }

    private static void promise8At() {
        SheetNeeds x = chain();
        x.change(0, 1000);
        x.edit(1, 0, -1, -1);
        x.fail(2, true);
        CHECK.is("at(0) is by the latest run", x.at(0), 30);
        CHECK.is("at(1) of one that was edited since", x.at(1), 900);
        CHECK.is("at(2) of one that was told to fail since", x.at(2), 890);
        x.run();
        CHECK.isThrown("at(2) of a failing one", IllegalStateException.class, () -> x.at(2));
        x.edit(2, 0, 1, 2);
        x.fail(1, true);
        x.cell(0, 1, 1);
        CHECK.isThrown("at(4) of a new one", IllegalStateException.class, () -> x.at(4));
        x.run();
        CHECK.isThrown("at(2) of one in a circle", IllegalStateException.class, () -> x.at(2));
        CHECK.isThrown("at(4) of a barred one", IllegalStateException.class, () -> x.at(4));
        CHECK.isNoIndex("at(5)", () -> x.at(5));
        CHECK.isNoIndex("at(-1)", () -> x.at(-1));
        CHECK.isNoIndex("at(150)", () -> x.at(150));
    }

    private static void promise9State() {
        SheetNeeds x = chain();
        x.edit(0, 0, 0, 0);
        x.fail(3, true);
        CHECK.is("state(0) is by the latest run", x.state(0), 0);
        CHECK.is("state(3) is by the latest run", x.state(3), 0);
        x.cell(0, 0, 0);
        CHECK.is("state(4) of a new one", x.state(4), 4);
        x.run();
        int[] due = {3, 2, 2, 1, 2};
        for (int i = 0; i < due.length; i++) {
            CHECK.is("state(" + i + ")", x.state(i), due[i]);
        }
        CHECK.isNoIndex("state(5)", () -> x.state(5));
        CHECK.isNoIndex("state(-1)", () -> x.state(-1));
        CHECK.isNoIndex("state(MAX_VALUE)", () -> x.state(Integer.MAX_VALUE));
    }

    private static void promise10Worked() {
        SheetNeeds x = chain();
        CHECK.is("worked(3)", x.worked(3), 3);
        CHECK.isNoIndex("worked(4)", () -> x.worked(4));
        CHECK.isNoIndex("worked(-1)", () -> x.worked(-1));
        CHECK.isNoIndex("worked(150)", () -> x.worked(150));
        x.change(1, 5);
        x.edit(2, 0, -1, -1);
        CHECK.is("worked(2) stays until the next run", x.worked(2), 2);
        x.undo();
        CHECK.isNoIndex("worked(0) behind an undo()", () -> x.worked(0));
        CHECK.is("count(4) behind an undo()", x.count(4), 0);
        x.run();
        CHECK.is("worked(0) behind the next run", x.worked(0), 0);
        x.run();
        CHECK.isNoIndex("worked(0) of a run that worked none", () -> x.worked(0));
    }
}
