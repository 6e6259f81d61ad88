/** Promises 17 to 19: which sources a cell uses, and the shortest circle. */
public final class CirclesTest {
    private static final Check CHECK = new Check();

    public static void main(String[] args) {
        promise17Uses();
        promise17UsesInCircles();
        promise17AllSources();
        promise18Circle();
        promise18LongestCircle();
        promise19CircleAt();
        promise19LowestNext();
        promise19LowestThatCloses();
        CHECK.end();
    }

    /** Cells 0 to count - 1 that use source 0 alone, to be edited. */
    private static SheetNeeds plain(int count) {
        SheetNeeds x = new SheetNeeds();
        x.source(1);
        for (int i = 0; i < count; i++) {
            x.cell(0, -1, -1);
        }
        return x;
    }

    private static void promise17Uses() {
        SheetNeeds x = new SheetNeeds();
        for (int i = 0; i < 5; i++) {
            x.source(i);
        }
        x.cell(0, -5, -2); // sources 4, 1
        x.cell(0, -1, -1); // source 0
        x.cell(0, 0, 1); // 0, 1, 4
        x.cell(0, 2, -3); // 0, 1, 2, 4
        CHECK.is("uses(0, 0)", x.uses(0, 0), 1);
        CHECK.is("uses(0, 1)", x.uses(0, 1), 4);
        CHECK.is("uses(1, 0)", x.uses(1, 0), 0);
        CHECK.isNoIndex("a source used twice is one", () -> x.uses(1, 1));
        int[] due = {0, 1, 2, 4};
        for (int k = 0; k < due.length; k++) {
            CHECK.is("uses(3, " + k + ")", x.uses(3, k), due[k]);
        }
        CHECK.isNoIndex("uses(3, 4)", () -> x.uses(3, 4));
        CHECK.isNoIndex("uses(3, -1)", () -> x.uses(3, -1));
        CHECK.isNoIndex("uses(3, 60)", () -> x.uses(3, 60));
        CHECK.isNoIndex("uses(4, 0)", () -> x.uses(4, 0));
        CHECK.isNoIndex("uses(-1, 0)", () -> x.uses(-1, 0));
        x.edit(0, 0, -4, -4);
        CHECK.is("by formulas as they are", x.uses(2, 1), 3);
        CHECK.is("without a run", x.count(4), 0);
    }

    private static void promise17UsesInCircles() {
        SheetNeeds x = new SheetNeeds();
        x.cell(0, 0, 0);
        CHECK.isNoIndex("a cell that uses no source", () -> x.uses(0, 0));
        x.source(1);
        x.source(2);
        x.cell(0, 0, -2);
        x.edit(0, 0, 1, 0);
        CHECK.is("by way of the circle", x.uses(0, 0), 1);
        CHECK.isNoIndex("the other source is not used", () -> x.uses(0, 1));
    }

    private static void promise17AllSources() {
        SheetNeeds x = new SheetNeeds();
        for (int i = 0; i < 60; i++) {
            x.source(i);
        }
        for (int i = 0; i < 60; i++) {
            x.cell(0, -1 - i, i == 0 ? -1 : i - 1);
        }
        for (int k = 0; k < 60; k++) {
            CHECK.is("uses(59, " + k + ")", x.uses(59, k), k);
        }
        CHECK.isNoIndex("uses(59, 60)", () -> x.uses(59, 60));
        CHECK.is("uses(30, 30)", x.uses(30, 30), 30);
        CHECK.isNoIndex("uses(30, 31)", () -> x.uses(30, 31));
    }

    private static void promise18Circle() {
        SheetNeeds x = plain(6);
        CHECK.is("none", x.circle(), 0);
        x.edit(0, 0, 1, -1);
        x.edit(1, 0, -1, 2);
        x.edit(2, 0, 3, -1);
        CHECK.is("a chain is none", x.circle(), 0);
        x.edit(3, 0, 0, -1);
        CHECK.is("four cells", x.circle(), 4);
        x.edit(2, 0, 3, 0);
        CHECK.is("a shorter one", x.circle(), 3);
        x.edit(4, 0, 5, 0);
        x.edit(5, 0, 4, 0);
        CHECK.is("a still shorter one", x.circle(), 2);
        x.edit(3, 0, 0, 3);
        CHECK.is("a cell that uses itself", x.circle(), 1);
        x.undo();
        CHECK.is("behind undo()", x.circle(), 2);
        x.run();
        CHECK.is("behind run()", x.circle(), 2);
        x.person();
        x.write(0, 4, 0, -1, -1);
        CHECK.is("a copy does not matter", x.circle(), 2);
        x.join(0);
        CHECK.is("behind join()", x.circle(), 3);
        x.cell(0, 6, -1);
        CHECK.is("behind cell()", x.circle(), 1);
    }

    private static void promise18LongestCircle() {
        SheetNeeds x = plain(150);
        for (int i = 0; i < 150; i++) {
            x.edit(i, 0, (i + 1) % 150, -1);
        }
        CHECK.is("all cells", x.circle(), 150);
        for (int k = 0; k < 150; k++) {
            CHECK.is("circleAt(" + k + ")", x.circleAt(k), k);
        }
        CHECK.isNoIndex("circleAt(150)", () -> x.circleAt(150));
        CHECK.is("run()", x.run(), 0);
        CHECK.is("count(9)", x.count(9), 150);
    }

    private static void promise19CircleAt() {
        SheetNeeds x = plain(6);
        CHECK.isNoIndex("circleAt(0) without", () -> x.circleAt(0));
        x.edit(5, 0, 2, -1);
        x.edit(2, 0, -1, 4);
        x.edit(4, 0, 5, 5);
        x.edit(0, 0, 2, 5);
        CHECK.is("circle()", x.circle(), 3);
        CHECK.is("circleAt(0): the lowest in it, not one that uses it", x.circleAt(0), 2);
        CHECK.is("circleAt(1)", x.circleAt(1), 4);
        CHECK.is("circleAt(2)", x.circleAt(2), 5);
        CHECK.isNoIndex("circleAt(3)", () -> x.circleAt(3));
        CHECK.isNoIndex("circleAt(-1)", () -> x.circleAt(-1));
        CHECK.isNoIndex("circleAt(150)", () -> x.circleAt(150));
        x.edit(3, 0, 3, 3);
        CHECK.is("circleAt(0) of a shorter one", x.circleAt(0), 3);
        CHECK.isNoIndex("circleAt(1) of it", () -> x.circleAt(1));
    }

    private static void promise19LowestNext() {
        SheetNeeds x = plain(4);
        x.edit(0, 0, 3, 1);
        x.edit(1, 0, 0, -1);
        x.edit(3, 0, 0, -1);
        CHECK.is("two circles of one length", x.circle(), 2);
        CHECK.is("circleAt(0)", x.circleAt(0), 0);
        CHECK.is("circleAt(1): the lower one, though the second operand", x.circleAt(1), 1);
        x.edit(0, 0, 1, 3);
        CHECK.is("circleAt(1): the lower one, though the first operand", x.circleAt(1), 1);
        x.edit(0, 0, 3, -1);
        CHECK.is("circleAt(1): the only one", x.circleAt(1), 3);
    }

    private static void promise19LowestThatCloses() {
        SheetNeeds x = plain(8);
        x.edit(1, 0, 2, 6); // 1 is the lowest of a circle of three: 1 6 7
        x.edit(2, 0, 3, 3); // by 2 it would take four: 1 2 3 7
        x.edit(3, 0, 7, 7);
        x.edit(6, 0, 7, 0);
        x.edit(7, 0, 1, -1);
        x.edit(0, 0, 2, 2); // 0 is in a circle of six alone
        CHECK.is("circle()", x.circle(), 3);
        CHECK.is("circleAt(0)", x.circleAt(0), 1);
        CHECK.is("circleAt(1): the lowest that can be closed in time", x.circleAt(1), 6);
        CHECK.is("circleAt(2): not 0, which is lower", x.circleAt(2), 7);
    }
}
