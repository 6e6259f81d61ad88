/**
 * A sheet of cells that are worked only when something that they use has changed.
 *
 * All rows are made in the constructor at their greatest size and used again by every call, so that a long
 * run of calls makes no objects but the exceptions that it asks for.
 */
public final class SheetNeeds {
    public static final int NONE = -1;

    private static final int MOST_SOURCES = 60;
    private static final int MOST_CELLS = 150;
    private static final int MOST_PEOPLE = 4;
    private static final int MOST_UNDONE = 16;

    private static final int ADD = 0;
    private static final int SUBTRACT = 1;
    private static final int MULTIPLY = 2;
    private static final int DIVIDE = 3;
    private static final int GREATER = 4;
    private static final int OP_COUNT = 6;

    private static final int GOOD = 0;
    private static final int FAILING = 1;
    private static final int BARRED = 2;
    private static final int CIRCLING = 3;
    private static final int NEW = 4;

    private final Sheet sheet;
    private final History history;
    private final Plan plan;
    private final Copy[] people;
    private int personCount;
    private final int[] workedCells;
    private int workedCount;
    private int workedInAllRuns;

    public SheetNeeds() {
        Formulas formulas = new Formulas();
        sheet = new Sheet(formulas);
        history = new History();
        plan = new Plan(formulas);
        people = new Copy[MOST_PEOPLE];
        for (int i = 0; i < MOST_PEOPLE; i++) {
            people[i] = new Copy();
        }
        workedCells = new int[MOST_CELLS];
    }

    public int source(long v) throws UnsupportedOperationException {
        if (sheet.sourceCount >= MOST_SOURCES) {
            throw new UnsupportedOperationException("there are sixty sources");
        }
        history.forget();
        return sheet.addSource(v);
    }

    public int cell(int op, int a, int b) throws IllegalArgumentException, UnsupportedOperationException {
        int made = sheet.formulas.size;
        if (!sheet.allows(op, a, b, made + 1)) {
            throw new IllegalArgumentException("no such op or operand");
        }
        if (made >= MOST_CELLS) {
            throw new UnsupportedOperationException("there are 150 cells");
        }
        history.forget();
        plan.forget();
        sheet.addCell(op, a, b);
        return made;
    }

    public long change(int source, long v) throws IndexOutOfBoundsException {
        if (source < 0 || source >= sheet.sourceCount) {
            throw new IndexOutOfBoundsException("no such source");
        }
        history.keep(sheet);
        long before = sheet.sourceNumbers[source];
        sheet.sourceNumbers[source] = v;
        return before;
    }

    public boolean edit(int cell, int op, int a, int b) throws IndexOutOfBoundsException, IllegalArgumentException {
        requireCell(cell);
        if (!sheet.allows(op, a, b, sheet.formulas.size)) {
            throw new IllegalArgumentException("no such op, source or cell");
        }
        history.keep(sheet);
        plan.forget();
        return sheet.formulas.put(cell, op, a, b);
    }

    public boolean fail(int cell, boolean on) throws IndexOutOfBoundsException {
        requireCell(cell);
        history.keep(sheet);
        boolean before = sheet.toldToFail[cell];
        sheet.toldToFail[cell] = on;
        return before;
    }

    public int run() {
        history.keep(sheet);
        plan.refresh();
        sheet.markCircling(plan.inCircle);
        workedCount = 0;
        for (int i = 0; i < plan.placed; i++) {
            lookAt(plan.order[i]);
        }
        workedInAllRuns += workedCount;
        return workedCount;
    }

    public long at(int cell) throws IndexOutOfBoundsException, IllegalStateException {
        requireCell(cell);
        if (sheet.states[cell] != GOOD) {
            throw new IllegalStateException("the cell is not good");
        }
        return sheet.numbers[cell];
    }

    public int state(int cell) throws IndexOutOfBoundsException {
        requireCell(cell);
        return sheet.states[cell];
    }

    public int worked(int k) throws IndexOutOfBoundsException {
        if (k < 0 || k >= workedCount) {
            throw new IndexOutOfBoundsException("no such worked cell");
        }
        return workedCells[k];
    }

    public int formula(int cell, int what) throws IndexOutOfBoundsException {
        requireCell(cell);
        switch (what) {
            case 0:
                return sheet.formulas.ops[cell];
            case 1:
                return sheet.formulas.firsts[cell];
            case 2:
                return sheet.formulas.seconds[cell];
            default:
                throw new IndexOutOfBoundsException("no such part of a formula");
        }
    }

    public int person() throws UnsupportedOperationException {
        if (personCount >= MOST_PEOPLE) {
            throw new UnsupportedOperationException("there are four people");
        }
        history.forget();
        people[personCount].startFrom(sheet.formulas);
        personCount++;
        return personCount - 1;
    }

    public boolean write(int person, int cell, int op, int a, int b)
            throws IndexOutOfBoundsException, IllegalArgumentException {
        requirePerson(person);
        Formulas own = people[person].own;
        if (cell < 0 || cell >= own.size) {
            throw new IndexOutOfBoundsException("the copy has no such cell");
        }
        if (!sheet.allows(op, a, b, own.size)) {
            throw new IllegalArgumentException("no such op, source or cell of the copy");
        }
        return own.put(cell, op, a, b);
    }

    public int join(int person) throws IndexOutOfBoundsException {
        requirePerson(person);
        Copy copy = people[person];
        int clashes = copy.countClashes(sheet.formulas);
        if (clashes == 0) {
            history.keep(sheet);
            plan.forget();
            copy.giveEdits(sheet.formulas);
            copy.startFrom(sheet.formulas);
        }
        return clashes;
    }

    public int edits(int person) throws IndexOutOfBoundsException {
        requirePerson(person);
        return people[person].countEdits();
    }

    public boolean undo() {
        if (history.size == 0) {
            return false;
        }
        history.giveBack(sheet);
        plan.forget();
        workedCount = 0;
        return true;
    }

    public int uses(int cell, int k) throws IndexOutOfBoundsException {
        requireCell(cell);
        int found = plan.walk.findSource(cell, k, sheet.sourceCount);
        if (found == NONE) {
            throw new IndexOutOfBoundsException("no such used source");
        }
        return found;
    }

    public int circle() {
        plan.refresh();
        return plan.ringLength;
    }

    public int circleAt(int k) throws IndexOutOfBoundsException {
        plan.refresh();
        if (k < 0 || k >= plan.ringLength) {
            throw new IndexOutOfBoundsException("no such cell of the circle");
        }
        return plan.ring[k];
    }

    public int count(int what) {
        switch (what) {
            case 0:
                return sheet.sourceCount;
            case 1:
                return sheet.formulas.size;
            case 2:
                return personCount;
            case 3:
                return history.size;
            case 4:
                return workedCount;
            case 5:
                return workedInAllRuns;
            case 6:
                return sheet.countInState(GOOD);
            case 7:
                return sheet.countInState(FAILING);
            case 8:
                return sheet.countInState(BARRED);
            case 9:
                return sheet.countInState(CIRCLING);
            default:
                return NONE;
        }
    }

    private void requireCell(int cell) {
        if (cell < 0 || cell >= sheet.formulas.size) {
            throw new IndexOutOfBoundsException("no such cell");
        }
    }

    private void requirePerson(int person) {
        if (person < 0 || person >= personCount) {
            throw new IndexOutOfBoundsException("no such person");
        }
    }

    /** A run's turn for a cell whose operands have had theirs. */
    private void lookAt(int cell) {
        if (sheet.hasBadOperand(cell)) {
            sheet.states[cell] = BARRED;
        } else if (sheet.isDue(cell)) {
            sheet.work(cell);
            workedCells[workedCount] = cell;
            workedCount++;
        }
    }

    /** The formulas of cells 0 to size - 1: of the sheet, of a copy, or those by which cells were worked last. */
    private static final class Formulas {
        final int[] ops = new int[MOST_CELLS];
        final int[] firsts = new int[MOST_CELLS];
        final int[] seconds = new int[MOST_CELLS];
        int size;

        boolean put(int cell, int op, int a, int b) {
            boolean other = ops[cell] != op || firsts[cell] != a || seconds[cell] != b;
            ops[cell] = op;
            firsts[cell] = a;
            seconds[cell] = b;
            return other;
        }

        boolean isSame(int cell, Formulas there) {
            return ops[cell] == there.ops[cell]
                    && firsts[cell] == there.firsts[cell]
                    && seconds[cell] == there.seconds[cell];
        }

        void takeOne(int cell, Formulas from) {
            put(cell, from.ops[cell], from.firsts[cell], from.seconds[cell]);
        }

        void takeAll(Formulas from) {
            size = from.size;
            System.arraycopy(from.ops, 0, ops, 0, size);
            System.arraycopy(from.firsts, 0, firsts, 0, size);
            System.arraycopy(from.seconds, 0, seconds, 0, size);
        }
    }

    /** All that an undo brings back. */
    private static final class Sheet {
        final Formulas formulas;
        final long[] sourceNumbers = new long[MOST_SOURCES];
        int sourceCount;
        final boolean[] toldToFail = new boolean[MOST_CELLS];
        final int[] states = new int[MOST_CELLS];
        final long[] numbers = new long[MOST_CELLS];
        private final Formulas workedBy = new Formulas();
        private final boolean[] workedTold = new boolean[MOST_CELLS];
        private final long[] workedFirst = new long[MOST_CELLS];
        private final long[] workedSecond = new long[MOST_CELLS];

        Sheet(Formulas formulas) {
            this.formulas = formulas;
        }

        /** Whether a formula has an op that there is, and operands among the sources and the given number of cells. */
        boolean allows(int op, int a, int b, int cells) {
            return op >= 0 && op < OP_COUNT && isThere(a, cells) && isThere(b, cells);
        }

        private boolean isThere(int operand, int cells) {
            return operand < 0 ? -1 - operand < sourceCount : operand < cells;
        }

        int addSource(long v) {
            sourceNumbers[sourceCount] = v;
            sourceCount++;
            return sourceCount - 1;
        }

        void addCell(int op, int a, int b) {
            int made = formulas.size;
            formulas.size = made + 1;
            formulas.put(made, op, a, b);
            // The formulas by which cells were worked are as many, so that takeAll brings all of them along.
            workedBy.size = made + 1;
            states[made] = NEW;
        }

        void markCircling(boolean[] inCircle) {
            for (int i = 0; i < formulas.size; i++) {
                if (inCircle[i]) {
                    states[i] = CIRCLING;
                }
            }
        }

        boolean hasBadOperand(int cell) {
            return isBad(formulas.firsts[cell]) || isBad(formulas.seconds[cell]);
        }

        private boolean isBad(int operand) {
            return operand >= 0 && states[operand] != GOOD;
        }

        private long numberOf(int operand) {
            return operand < 0 ? sourceNumbers[-1 - operand] : numbers[operand];
        }

        /** Whether a cell with good operands must be worked. */
        boolean isDue(int cell) {
            if (states[cell] != GOOD && states[cell] != FAILING) {
                return true;
            }
            return toldToFail[cell] != workedTold[cell]
                    || !formulas.isSame(cell, workedBy)
                    || numberOf(formulas.firsts[cell]) != workedFirst[cell]
                    || numberOf(formulas.seconds[cell]) != workedSecond[cell];
        }

        void work(int cell) {
            int op = formulas.ops[cell];
            long a = numberOf(formulas.firsts[cell]);
            long b = numberOf(formulas.seconds[cell]);
            workedBy.takeOne(cell, formulas);
            workedTold[cell] = toldToFail[cell];
            workedFirst[cell] = a;
            workedSecond[cell] = b;
            if (toldToFail[cell] || (op == DIVIDE && b == 0)) {
                states[cell] = FAILING;
            } else {
                states[cell] = GOOD;
                numbers[cell] = calculate(op, a, b);
            }
        }

        private static long calculate(int op, long a, long b) {
            switch (op) {
                case ADD:
                    return a + b;
                case SUBTRACT:
                    return a - b;
                case MULTIPLY:
                    return a * b;
                case DIVIDE:
                    return b == 0 ? 0 : a / b;
                case GREATER:
                    return Math.max(a, b);
                default:
                    return a != 0 ? a : b;
            }
        }

        int countInState(int wanted) {
            int found = 0;
            for (int i = 0; i < formulas.size; i++) {
                if (states[i] == wanted) {
                    found++;
                }
            }
            return found;
        }

        void takeAll(Sheet from) {
            int cells = from.formulas.size;
            sourceCount = from.sourceCount;
            System.arraycopy(from.sourceNumbers, 0, sourceNumbers, 0, sourceCount);
            formulas.takeAll(from.formulas);
            System.arraycopy(from.toldToFail, 0, toldToFail, 0, cells);
            System.arraycopy(from.states, 0, states, 0, cells);
            System.arraycopy(from.numbers, 0, numbers, 0, cells);
            workedBy.takeAll(from.workedBy);
            System.arraycopy(from.workedTold, 0, workedTold, 0, cells);
            System.arraycopy(from.workedFirst, 0, workedFirst, 0, cells);
            System.arraycopy(from.workedSecond, 0, workedSecond, 0, cells);
        }
    }

    /** The sheet as it was before each of the latest things that can be undone: a ring of rows used again. */
    private static final class History {
        private final Sheet[] kept;
        private int next;
        int size;

        History() {
            kept = new Sheet[MOST_UNDONE];
            for (int i = 0; i < MOST_UNDONE; i++) {
                kept[i] = new Sheet(new Formulas());
            }
        }

        void keep(Sheet sheet) {
            kept[next].takeAll(sheet);
            next = (next + 1) % MOST_UNDONE;
            if (size < MOST_UNDONE) {
                size++;
            }
        }

        /** To be called only while size is not 0. */
        void giveBack(Sheet sheet) {
            next = (next + MOST_UNDONE - 1) % MOST_UNDONE;
            size--;
            sheet.takeAll(kept[next]);
        }

        void forget() {
            size = 0;
        }
    }

    /** A person's copy, and the sheet's formulas at the time when it was taken. */
    private static final class Copy {
        private final Formulas then = new Formulas();
        final Formulas own = new Formulas();

        void startFrom(Formulas sheet) {
            then.takeAll(sheet);
            own.takeAll(sheet);
        }

        private boolean isEdit(int cell) {
            return !own.isSame(cell, then);
        }

        int countEdits() {
            int found = 0;
            for (int i = 0; i < own.size; i++) {
                if (isEdit(i)) {
                    found++;
                }
            }
            return found;
        }

        int countClashes(Formulas sheet) {
            int found = 0;
            for (int i = 0; i < own.size; i++) {
                if (isEdit(i) && !sheet.isSame(i, then) && !sheet.isSame(i, own)) {
                    found++;
                }
            }
            return found;
        }

        void giveEdits(Formulas sheet) {
            for (int i = 0; i < own.size; i++) {
                if (isEdit(i)) {
                    sheet.takeOne(i, own);
                }
            }
        }
    }

    /** The cells that are used by way of any from one cell on, nearest first. */
    private static final class Walk {
        private final Formulas formulas;
        private final int[] reached = new int[MOST_CELLS];
        private int reachedCount;
        private final int[] steps = new int[MOST_CELLS];
        private final boolean[] sourceUsed = new boolean[MOST_SOURCES];

        Walk(Formulas formulas) {
            this.formulas = formulas;
        }

        private void goFrom(int start) {
            for (int i = 0; i < formulas.size; i++) {
                steps[i] = NONE;
            }
            reachedCount = 0;
            reach(start, 0);
            for (int i = 0; i < reachedCount && i < MOST_CELLS; i++) {
                int cell = reached[i];
                reach(formulas.firsts[cell], steps[cell] + 1);
                reach(formulas.seconds[cell], steps[cell] + 1);
            }
        }

        private void reach(int operand, int step) {
            if (operand >= 0 && steps[operand] == NONE) {
                steps[operand] = step;
                reached[reachedCount] = operand;
                reachedCount++;
            }
        }

        /** By how many uses, one at least, one cell comes to the other; NONE if it does not. */
        int countSteps(int start, int goal) {
            goFrom(start);
            for (int i = 0; i < reachedCount; i++) {
                int cell = reached[i];
                if (formulas.firsts[cell] == goal || formulas.seconds[cell] == goal) {
                    return steps[cell] + 1;
                }
            }
            return NONE;
        }

        /** The k-th source that a cell uses by way of any; NONE if there is none such. */
        int findSource(int start, int k, int sources) {
            markSources(start, sources);
            int before = 0;
            for (int i = 0; i < sources; i++) {
                if (sourceUsed[i]) {
                    if (before == k) {
                        return i;
                    }
                    before++;
                }
            }
            return NONE;
        }

        private void markSources(int start, int sources) {
            for (int i = 0; i < sources; i++) {
                sourceUsed[i] = false;
            }
            goFrom(start);
            for (int i = 0; i < reachedCount; i++) {
                markSource(formulas.firsts[reached[i]]);
                markSource(formulas.seconds[reached[i]]);
            }
        }

        private void markSource(int operand) {
            if (operand < 0) {
                sourceUsed[-1 - operand] = true;
            }
        }
    }

    /** What follows from the sheet's formulas alone; it is worked out again only when they may have changed. */
    private static final class Plan {
        private final Formulas formulas;
        final Walk walk;
        final boolean[] inCircle = new boolean[MOST_CELLS];
        private final boolean[] passed = new boolean[MOST_CELLS];
        final int[] order = new int[MOST_CELLS];
        int placed;
        final int[] ring = new int[MOST_CELLS];
        int ringLength;
        private boolean known;

        Plan(Formulas formulas) {
            this.formulas = formulas;
            walk = new Walk(formulas);
        }

        void forget() {
            known = false;
        }

        void refresh() {
            if (known) {
                return;
            }
            for (int i = 0; i < formulas.size; i++) {
                inCircle[i] = false;
            }
            // A cell that can be placed while no circle is known neither is in one nor uses one.
            placeCells();
            findCircles();
            if (ringLength > 0) {
                placeCells();
            }
            known = true;
        }

        /** Places the cells that are not in a circle, each time the lowest one whose operands have passed. */
        private void placeCells() {
            System.arraycopy(inCircle, 0, passed, 0, formulas.size);
            placed = 0;
            int low = 0;
            for (int turn = 0; turn < formulas.size; turn++) {
                while (low < formulas.size && passed[low]) {
                    low++;
                }
                int next = findReady(low);
                if (next == NONE) {
                    return;
                }
                passed[next] = true;
                order[placed] = next;
                placed++;
            }
        }

        private int findReady(int low) {
            for (int i = low; i < formulas.size; i++) {
                if (!passed[i] && hasPassed(formulas.firsts[i]) && hasPassed(formulas.seconds[i])) {
                    return i;
                }
            }
            return NONE;
        }

        private boolean hasPassed(int operand) {
            return operand < 0 || passed[operand];
        }

        private void findCircles() {
            ringLength = 0;
            for (int i = 0; i < formulas.size; i++) {
                if (!passed[i]) {
                    int length = walk.countSteps(i, i);
                    inCircle[i] = length != NONE;
                    if (inCircle[i] && (ringLength == 0 || length < ringLength)) {
                        ringLength = length;
                        ring[0] = i;
                    }
                }
            }
            for (int i = 1; i < ringLength; i++) {
                ring[i] = findNext(ring[i - 1], ringLength - i);
            }
        }

        /** The lowest operand of a cell from which the ring's first cell can be come to by the uses that are left. */
        private int findNext(int cell, int left) {
            int low = Math.min(formulas.firsts[cell], formulas.seconds[cell]);
            int high = Math.max(formulas.firsts[cell], formulas.seconds[cell]);
            return low >= 0 && walk.countSteps(low, ring[0]) == left ? low : high;
        }
    }
}
