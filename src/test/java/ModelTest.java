import java.util.Random;
import java.util.function.Supplier;

/** Many runs of calls, always the same ones, whose answers are compared with those of PlainSheet. */
public final class ModelTest {
    private static final int SMALL_RUNS = 1500;
    private static final int FULL_RUNS = 60;
    private static final int CALLS = 512;
    private static final int[] ODD = {Integer.MIN_VALUE, Integer.MAX_VALUE, -62, -61, -7, 6, 60, 150, 151};
    private static final long[] NUMBERS = {0, 0, 1, 1, 2, -1, -2, 3, Long.MIN_VALUE, Long.MAX_VALUE, 1L << 33};

    private final Check check;
    private final Random random;
    private final SheetNeeds real = new SheetNeeds();
    private final PlainSheet plain = new PlainSheet();
    private final StringBuilder told = new StringBuilder();
    private final boolean full;
    private final int mostCells;
    private final int calm;
    private int calls;
    private boolean same = true;

    private ModelTest(Check check, int seed, boolean full) {
        this.check = check;
        this.full = full;
        random = new Random(seed);
        mostCells = 2 + random.nextInt(9);
        calm = random.nextInt(3);
    }

    public static void main(String[] args) {
        Check check = new Check();
        for (int seed = 0; seed < SMALL_RUNS; seed++) {
            new ModelTest(check, seed, false).go();
        }
        for (int seed = 0; seed < FULL_RUNS; seed++) {
            new ModelTest(check, seed, true).go();
        }
        check.end();
    }

    private void go() {
        if (full) {
            fill();
        }
        while (calls < CALLS && same) {
            call();
        }
        if (!same) {
            System.out.println("  behind: " + told);
        }
    }

    /** Up to the most that there may be, or a little less: cells use sources and cells before them. */
    private void fill() {
        int sources = 60 - random.nextInt(2);
        int cells = 150 - random.nextInt(3);
        for (int i = 0; i < sources && same; i++) {
            addSource(1 + random.nextInt(5));
        }
        for (int i = 0; i < cells && same; i++) {
            addCell(random.nextInt(3), operandBefore(i), operandBefore(i));
        }
        for (int i = 0; i < 3 && same; i++) {
            compare("person()", () -> real.person(), () -> plain.person());
        }
    }

    private int operandBefore(int cell) {
        boolean source = cell == 0 || random.nextInt(4) < calm + 1;
        return source ? -1 - random.nextInt(plain.count(0)) : cell - 1 - random.nextInt(Math.min(cell, 10));
    }

    private void compare(String call, Supplier<Object> ofReal, Supplier<Object> ofPlain) {
        String want = answer(ofPlain);
        String got = answer(ofReal);
        check.isText(call, got, want);
        same = got.equals(want);
        calls++;
        told.append(call).append(" = ").append(want).append("; ");
    }

    private static String answer(Supplier<Object> call) {
        try {
            return String.valueOf(call.get());
        } catch (RuntimeException e) {
            return e.getClass().getName();
        }
    }

    /** A number from low to below high, now and then one that lies beside it or far off. */
    private int some(int low, int high) {
        int kind = random.nextInt(60);
        if (kind == 0) {
            return ODD[random.nextInt(ODD.length)];
        }
        if (kind == 1) {
            return high;
        }
        if (kind == 2) {
            return low - 1;
        }
        return low + random.nextInt(Math.max(1, high - low));
    }

    private int someCell() {
        return some(0, plain.count(1));
    }

    private int operand() {
        // Calm runs have more sources as operands, so that fewer cells come into circles.
        boolean source = random.nextInt(4) < calm + 1;
        return source ? some(-plain.count(0), 0) : someCell();
    }

    private int op() {
        return some(0, 6);
    }

    private long number() {
        return NUMBERS[random.nextInt(NUMBERS.length)];
    }

    private void call() {
        int kind = random.nextInt(100);
        if (kind < 5) {
            grow();
        } else if (kind < 45) {
            alter();
        } else if (kind < 60) {
            share();
        } else {
            look();
        }
    }

    private void grow() {
        int kind = random.nextInt(12);
        if (kind < 3 && (full || plain.count(0) < 4)) {
            addSource(number());
        } else if (kind < 11 && (full || plain.count(1) < mostCells)) {
            addCell(op(), random.nextInt(8) == 0 ? plain.count(1) : operand(), operand());
        } else if (random.nextInt(4) == 0) {
            compare("person()", () -> real.person(), () -> plain.person());
        }
    }

    private void addSource(long v) {
        compare("source(" + v + ")", () -> real.source(v), () -> plain.source(v));
    }

    private void addCell(int op, int a, int b) {
        compare("cell(" + op + ", " + a + ", " + b + ")", () -> real.cell(op, a, b), () -> plain.cell(op, a, b));
    }

    private void alter() {
        int kind = random.nextInt(20);
        int cell = someCell();
        if (kind < 3) {
            int source = some(0, plain.count(0));
            long v = number();
            compare("change(" + source + ", " + v + ")", () -> real.change(source, v), () -> plain.change(source, v));
        } else if (kind < 7) {
            int op = op();
            int a = operand();
            int b = operand();
            compare("edit(" + cell + ", " + op + ", " + a + ", " + b + ")",
                    () -> real.edit(cell, op, a, b), () -> plain.edit(cell, op, a, b));
        } else if (kind < 9) {
            boolean on = random.nextInt(5) < 2;
            compare("fail(" + cell + ", " + on + ")", () -> real.fail(cell, on), () -> plain.fail(cell, on));
        } else if (kind < 15) {
            compare("run()", () -> real.run(), () -> plain.run());
        } else {
            compare("undo()", () -> real.undo(), () -> plain.undo());
        }
    }

    private void share() {
        int person = some(0, plain.count(2));
        int kind = random.nextInt(5);
        if (kind < 3) {
            int cell = someCell();
            int op = op();
            int a = operand();
            int b = operand();
            compare("write(" + person + ", " + cell + ", " + op + ", " + a + ", " + b + ")",
                    () -> real.write(person, cell, op, a, b), () -> plain.write(person, cell, op, a, b));
        } else if (kind < 4) {
            compare("join(" + person + ")", () -> real.join(person), () -> plain.join(person));
        } else {
            compare("edits(" + person + ")", () -> real.edits(person), () -> plain.edits(person));
        }
    }

    private void look() {
        int cell = someCell();
        int k = some(0, full ? 20 : 5);
        switch (random.nextInt(8)) {
            case 0 -> compare("at(" + cell + ")", () -> real.at(cell), () -> plain.at(cell));
            case 1 -> compare("state(" + cell + ")", () -> real.state(cell), () -> plain.state(cell));
            case 2 -> compare("worked(" + k + ")", () -> real.worked(k), () -> plain.worked(k));
            case 3 -> {
                int what = some(0, 3);
                compare("formula(" + cell + ", " + what + ")",
                        () -> real.formula(cell, what), () -> plain.formula(cell, what));
            }
            case 4 -> compare("uses(" + cell + ", " + k + ")", () -> real.uses(cell, k), () -> plain.uses(cell, k));
            case 5 -> compare("circle()", () -> real.circle(), () -> plain.circle());
            case 6 -> compare("circleAt(" + k + ")", () -> real.circleAt(k), () -> plain.circleAt(k));
            default -> {
                int what = some(0, 10);
                compare("count(" + what + ")", () -> real.count(what), () -> plain.count(what));
            }
        }
    }
}
