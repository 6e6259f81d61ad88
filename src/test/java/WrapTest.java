/** Numbers of 64 bits: where the ops wrap round, are rounded or fail, and what counts as another number. */
public final class WrapTest {
    private static final Check CHECK = new Check();
    private static final String WIDTH = "0 a + b, 1 a - b, 2 a * b (64 bits)";
    private static final String QUOTIENT = "3 a / b rounded to 0";
    private static final String OTHER_NUMBER =
            "an operand (a source's number, or a cell's number) is another one than when it was worked last";
    private static final long LOWEST = Long.MIN_VALUE;
    private static final long GREATEST = Long.MAX_VALUE;

    public static void main(String[] args) {
        CHECK.sentence("terms, SOURCES", "SOURCES (up to 60) are numbers.", WrapTest::sourcesHold64Bits);
        CHECK.sentence("promise 4", "A source is another number: the one before.", WrapTest::changeAnswers64Bits);
        CHECK.sentence("terms, OPS 0", WIDTH, WrapTest::sums);
        CHECK.sentence("terms, OPS 1", WIDTH, WrapTest::differences);
        CHECK.sentence("terms, OPS 2", WIDTH, WrapTest::products);
        CHECK.sentence("terms, OPS, by way of cells", WIDTH, WrapTest::numbersThatWrappedAreUsed);
        CHECK.sentence("terms, OPS 3", QUOTIENT, WrapTest::quotients);
        CHECK.sentence("terms, OPS 3, the only one that leaves 64 bits", QUOTIENT, WrapTest::quotientThatWraps);
        CHECK.sentence("terms, OPS 3", "(b 0: it FAILS)", WrapTest::divisorZero);
        CHECK.sentence("terms, OPS 3, by way of a cell", "(b 0: it FAILS)", WrapTest::divisorZeroByACell);
        CHECK.sentence("terms, OPS 4", "4 the greater one", WrapTest::greater);
        CHECK.sentence("terms, OPS 5", "5 a, if that is not 0, else b.", WrapTest::firstUnlessZero);
        CHECK.sentence("terms, RUN, a source", OTHER_NUMBER, WrapTest::sourceThatDiffersInOneBit);
        CHECK.sentence("terms, RUN, a cell", OTHER_NUMBER, WrapTest::cellThatDiffersInHighBits);
        CHECK.sentence("terms, RUN, a cell that wraps to the same number", OTHER_NUMBER,
                WrapTest::cellThatWrapsToTheSame);
        CHECK.sentence("terms, UNDO", "formulas, sources' numbers, what is told to fail, states, numbers",
                WrapTest::undoneNumbersHave64Bits);
        CHECK.end();
    }

    private static SheetNeeds oneCell(int op, long a, long b) {
        SheetNeeds x = Sheets.withSources(a, b);
        x.cell(op, -1, -2);
        x.run();
        return x;
    }

    private static void is(int op, long a, long b, long due) {
        SheetNeeds x = oneCell(op, a, b);
        String call = "op " + op + " of " + a + ", " + b;
        CHECK.is(call + ": state", x.state(0), 0);
        CHECK.is(call, x.at(0), due);
    }

    private static void isFailing(long a, long b) {
        SheetNeeds x = oneCell(3, a, b);
        CHECK.is(a + " / " + b + ": state", x.state(0), 1);
        CHECK.isNotGood(a + " / " + b + ": at", () -> x.at(0));
        CHECK.is(a + " / " + b + ": it was worked", x.count(4), 1);
    }

    private static void sourcesHold64Bits() {
        long[] numbers = {LOWEST, LOWEST + 1, -1, 0, 1, GREATEST - 1, GREATEST, 1L << 32, -(1L << 32), 1L << 31};
        for (long v : numbers) {
            SheetNeeds x = Sheets.withSources(v);
            x.cell(5, -1, -1);
            x.run();
            CHECK.is("the cell's number", x.at(0), v);
            CHECK.is("the source's number", x.change(0, 0), v);
        }
    }

    private static void changeAnswers64Bits() {
        SheetNeeds x = Sheets.withSources(0);
        long before = 0;
        for (long v : new long[] {LOWEST, GREATEST, -1, 1L << 32, 1L << 31, -(1L << 31), LOWEST + 1}) {
            CHECK.is("change(0, " + v + ")", x.change(0, v), before);
            before = v;
        }
        CHECK.is("the last one", x.change(0, 0), before);
    }

    private static void sums() {
        is(0, GREATEST, 0, GREATEST);
        is(0, GREATEST, 1, LOWEST);
        is(0, 1, GREATEST, LOWEST);
        is(0, GREATEST, GREATEST, -2);
        is(0, LOWEST, 0, LOWEST);
        is(0, LOWEST, -1, GREATEST);
        is(0, LOWEST, LOWEST, 0);
        is(0, LOWEST, GREATEST, -1);
        is(0, Integer.MAX_VALUE, 1, 1L << 31);
        is(0, Integer.MIN_VALUE, -1, -(1L << 31) - 1);
    }

    private static void differences() {
        is(1, LOWEST, 0, LOWEST);
        is(1, LOWEST, 1, GREATEST);
        is(1, LOWEST, GREATEST, 1);
        is(1, GREATEST, -1, LOWEST);
        is(1, GREATEST, LOWEST, -1);
        is(1, 0, LOWEST, LOWEST);
        is(1, -1, LOWEST, GREATEST);
        is(1, LOWEST, LOWEST, 0);
        is(1, Integer.MIN_VALUE, 1, -(1L << 31) - 1);
    }

    private static void products() {
        is(2, GREATEST, 2, -2);
        is(2, GREATEST, GREATEST, 1);
        is(2, GREATEST, -1, -GREATEST);
        is(2, LOWEST, -1, LOWEST);
        is(2, LOWEST, 2, 0);
        is(2, LOWEST, LOWEST, 0);
        is(2, 1L << 32, 1L << 31, LOWEST);
        is(2, 1L << 32, 1L << 32, 0);
        is(2, (1L << 32) + 1, (1L << 32) - 1, -1);
        is(2, 1L << 16, 1L << 16, 1L << 32);
        is(2, 3037000500L, 3037000500L, -9223372036709301616L);
        is(2, 3037000499L, 3037000499L, 9223372030926249001L);
    }

    private static void numbersThatWrappedAreUsed() {
        SheetNeeds x = Sheets.withSources(GREATEST, 1);
        x.cell(0, -1, -2); // 0: the lowest
        x.cell(1, 0, -2); // 1: the greatest again
        x.cell(4, 0, 1); // 2
        x.cell(2, 0, 0); // 3: 0
        x.cell(3, -2, 3); // 4: fails
        x.run();
        CHECK.is("at(0)", x.at(0), LOWEST);
        CHECK.is("at(1)", x.at(1), GREATEST);
        CHECK.is("at(2)", x.at(2), GREATEST);
        CHECK.is("at(3)", x.at(3), 0);
        CHECK.is("a divisor that wrapped to 0", x.state(4), 1);
    }

    private static void quotients() {
        is(3, 7, 2, 3);
        is(3, -7, 2, -3);
        is(3, 7, -2, -3);
        is(3, -7, -2, 3);
        is(3, 1, 2, 0);
        is(3, -1, 2, 0);
        is(3, 1, -2, 0);
        is(3, -1, GREATEST, 0);
        is(3, GREATEST, LOWEST, 0);
        is(3, LOWEST, GREATEST, -1);
        is(3, LOWEST, LOWEST, 1);
        is(3, LOWEST, 1, LOWEST);
        is(3, LOWEST, 2, -(1L << 62));
        is(3, GREATEST, -1, -GREATEST);
        is(3, 1L << 40, 1L << 33, 128);
    }

    private static void quotientThatWraps() {
        is(3, LOWEST, -1, LOWEST);
    }

    private static void divisorZero() {
        isFailing(1, 0);
        isFailing(-1, 0);
        isFailing(0, 0);
        isFailing(LOWEST, 0);
        isFailing(GREATEST, 0);
        is(3, 0, 1, 0);
        is(3, 0, LOWEST, 0);
        is(3, 5, 1L << 32, 0);
        for (int op : new int[] {0, 1, 2, 4, 5}) {
            CHECK.is("op " + op + " does not fail by 0", oneCell(op, 0, 0).state(0), 0);
        }
    }

    private static void divisorZeroByACell() {
        SheetNeeds x = Sheets.withSources(6, 2);
        x.cell(1, -2, -2); // 0: 0
        x.cell(3, -1, 0); // 1: fails
        x.cell(3, 0, -1); // 2: 0 / 6
        x.cell(3, 0, 0); // 3: 0 / 0 fails
        CHECK.is("all are worked", x.run(), 4);
        int[] due = {0, 1, 0, 1};
        for (int i = 0; i < due.length; i++) {
            CHECK.is("state(" + i + ")", x.state(i), due[i]);
        }
        CHECK.is("at(2)", x.at(2), 0);
        x.edit(0, 0, -2, -2);
        x.run();
        CHECK.is("at(1), when b is not 0 any more", x.at(1), 1);
    }

    private static void greater() {
        is(4, LOWEST, GREATEST, GREATEST);
        is(4, GREATEST, LOWEST, GREATEST);
        is(4, LOWEST, LOWEST + 1, LOWEST + 1);
        is(4, GREATEST - 1, GREATEST, GREATEST);
        is(4, LOWEST, LOWEST, LOWEST);
        is(4, LOWEST, 1, 1);
        is(4, GREATEST, -1, GREATEST);
        is(4, 0, -1, 0);
        is(4, -5, -4, -4);
        is(4, 1L << 32, 1, 1L << 32);
        is(4, -(1L << 32), 1, 1);
        is(4, 7, 7, 7);
    }

    private static void firstUnlessZero() {
        is(5, 1, 9, 1);
        is(5, -1, 9, -1);
        is(5, 0, 9, 9);
        is(5, 0, 0, 0);
        is(5, 0, LOWEST, LOWEST);
        is(5, LOWEST, 9, LOWEST);
        is(5, GREATEST, 9, GREATEST);
        is(5, 1L << 32, 9, 1L << 32);
        is(5, 9, 0, 9);
    }

    private static void sourceThatDiffersInOneBit() {
        for (int bit = 0; bit < 64; bit++) {
            SheetNeeds x = oneCell(0, 5, 6);
            x.change(bit % 2, (bit % 2 == 0 ? 5 : 6) ^ (1L << bit));
            CHECK.is("run() behind a change of bit " + bit, x.run(), 1);
            CHECK.is("run() again", x.run(), 0);
        }
    }

    private static void cellThatDiffersInHighBits() {
        SheetNeeds x = Sheets.withSources(1);
        x.cell(0, -1, -1);
        x.cell(5, 0, 0);
        x.run();
        x.change(0, (1L << 62) + 1);
        CHECK.is("by its number's highest bit alone", x.run(), 2);
        CHECK.is("at(1)", x.at(1), LOWEST + 2);
    }

    private static void cellThatWrapsToTheSame() {
        SheetNeeds x = Sheets.withSources(1);
        x.cell(0, -1, -1);
        x.cell(5, 0, 0);
        x.run();
        x.change(0, LOWEST + 1);
        CHECK.is("the sum is 2 again: what uses it is not worked", x.run(), 1);
        CHECK.is("worked(0)", x.worked(0), 0);
        CHECK.is("at(0)", x.at(0), 2);
    }

    private static void undoneNumbersHave64Bits() {
        SheetNeeds x = Sheets.withSources(LOWEST, GREATEST);
        x.cell(5, -1, -2);
        x.cell(5, -2, -1);
        x.run();
        x.change(0, 1);
        x.change(1, 1);
        x.run();
        x.undo();
        CHECK.is("at(0)", x.at(0), LOWEST);
        CHECK.is("at(1)", x.at(1), GREATEST);
        x.undo();
        x.undo();
        CHECK.is("what cells were worked with", x.run(), 0);
        CHECK.is("source 0", x.change(0, 0), LOWEST);
        CHECK.is("source 1", x.change(1, 0), GREATEST);
    }
}
