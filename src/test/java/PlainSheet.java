import java.util.ArrayList;
import java.util.List;
import java.util.TreeSet;

/**
 * The document once more, written as plainly as can be: whole lists are copied, and circles are searched by trying
 * every length and every first cell. ModelTest compares the program with it.
 */
final class PlainSheet {
    private record Formula(int op, int a, int b) {
    }

    /** What a cell was worked with. */
    private record Worked(Formula formula, boolean told, long a, long b) {
    }

    private record Cell(Formula formula, boolean told, int state, long number, Worked last) {
    }

    private record Whole(List<Long> sources, List<Cell> cells) {
    }

    private static final class Person {
        List<Formula> then;
        List<Formula> own;
    }

    private List<Long> sources = new ArrayList<>();
    private List<Cell> cells = new ArrayList<>();
    private final List<Person> people = new ArrayList<>();
    private final List<Whole> before = new ArrayList<>();
    private List<Integer> workedCells = new ArrayList<>();
    private int workedInAll;

    private static void refuse(boolean wrong, RuntimeException e) {
        if (wrong) {
            throw e;
        }
    }

    private static void need(int index, int size) {
        refuse(index < 0 || index >= size, new IndexOutOfBoundsException());
    }

    private boolean wrong(int op, int a, int b, int cellsThere) {
        return op < 0 || op > 5 || a >= cellsThere || b >= cellsThere
                || a < -sources.size() || b < -sources.size();
    }

    private void keep() {
        before.add(new Whole(new ArrayList<>(sources), new ArrayList<>(cells)));
        if (before.size() > 16) {
            before.remove(0);
        }
    }

    int source(long v) {
        refuse(sources.size() == 60, new UnsupportedOperationException());
        before.clear();
        sources.add(v);
        return sources.size() - 1;
    }

    int cell(int op, int a, int b) {
        refuse(wrong(op, a, b, cells.size() + 1), new IllegalArgumentException());
        refuse(cells.size() == 150, new UnsupportedOperationException());
        before.clear();
        cells.add(new Cell(new Formula(op, a, b), false, 4, 0, null));
        return cells.size() - 1;
    }

    long change(int source, long v) {
        need(source, sources.size());
        keep();
        return sources.set(source, v);
    }

    private void setFormula(int cell, Formula f) {
        Cell c = cells.get(cell);
        cells.set(cell, new Cell(f, c.told, c.state, c.number, c.last));
    }

    boolean edit(int cell, int op, int a, int b) {
        need(cell, cells.size());
        refuse(wrong(op, a, b, cells.size()), new IllegalArgumentException());
        keep();
        Formula f = new Formula(op, a, b);
        boolean other = !f.equals(cells.get(cell).formula);
        setFormula(cell, f);
        return other;
    }

    boolean fail(int cell, boolean on) {
        need(cell, cells.size());
        keep();
        Cell c = cells.get(cell);
        cells.set(cell, new Cell(c.formula, on, c.state, c.number, c.last));
        return c.told;
    }

    /** The cells that a cell uses by way of any. */
    private TreeSet<Integer> reached(int cell) {
        TreeSet<Integer> all = new TreeSet<>();
        boolean more = addOperands(all, cell);
        while (more) {
            more = false;
            for (int c : new ArrayList<>(all)) {
                more |= addOperands(all, c);
            }
        }
        return all;
    }

    private boolean addOperands(TreeSet<Integer> all, int cell) {
        Formula f = cells.get(cell).formula;
        boolean more = f.a >= 0 && all.add(f.a);
        return (f.b >= 0 && all.add(f.b)) || more;
    }

    private TreeSet<Integer> circling() {
        TreeSet<Integer> all = new TreeSet<>();
        for (int i = 0; i < cells.size(); i++) {
            if (reached(i).contains(i)) {
                all.add(i);
            }
        }
        return all;
    }

    int run() {
        keep();
        workedCells = new ArrayList<>();
        TreeSet<Integer> came = circling();
        for (int i : came) {
            Cell c = cells.get(i);
            cells.set(i, new Cell(c.formula, c.told, 3, 0, c.last));
        }
        while (came.size() < cells.size()) {
            int next = 0;
            while (came.contains(next) || !operandsCame(next, came)) {
                next++;
            }
            lookAt(next);
            came.add(next);
        }
        workedInAll += workedCells.size();
        return workedCells.size();
    }

    private boolean operandsCame(int cell, TreeSet<Integer> came) {
        Formula f = cells.get(cell).formula;
        return (f.a < 0 || came.contains(f.a)) && (f.b < 0 || came.contains(f.b));
    }

    private void lookAt(int cell) {
        Cell c = cells.get(cell);
        Formula f = c.formula;
        if ((f.a >= 0 && cells.get(f.a).state != 0) || (f.b >= 0 && cells.get(f.b).state != 0)) {
            cells.set(cell, new Cell(f, c.told, 2, 0, c.last));
            return;
        }
        long a = f.a >= 0 ? cells.get(f.a).number : sources.get(-1 - f.a);
        long b = f.b >= 0 ? cells.get(f.b).number : sources.get(-1 - f.b);
        Worked now = new Worked(f, c.told, a, b);
        if (c.state >= 2 || !now.equals(c.last)) {
            boolean failing = c.told || (f.op == 3 && b == 0);
            cells.set(cell, new Cell(f, c.told, failing ? 1 : 0, failing ? 0 : number(f.op, a, b), now));
            workedCells.add(cell);
        }
    }

    private static long number(int op, long a, long b) {
        return switch (op) {
            case 0 -> a + b;
            case 1 -> a - b;
            case 2 -> a * b;
            case 3 -> a / b;
            case 4 -> a > b ? a : b;
            default -> a == 0 ? b : a;
        };
    }

    long at(int cell) {
        need(cell, cells.size());
        refuse(cells.get(cell).state != 0, new IllegalStateException());
        return cells.get(cell).number;
    }

    int state(int cell) {
        need(cell, cells.size());
        return cells.get(cell).state;
    }

    int worked(int k) {
        need(k, workedCells.size());
        return workedCells.get(k);
    }

    int formula(int cell, int what) {
        need(cell, cells.size());
        need(what, 3);
        Formula f = cells.get(cell).formula;
        return what == 0 ? f.op : what == 1 ? f.a : f.b;
    }

    private List<Formula> formulas() {
        List<Formula> all = new ArrayList<>();
        for (Cell c : cells) {
            all.add(c.formula);
        }
        return all;
    }

    int person() {
        refuse(people.size() == 4, new UnsupportedOperationException());
        before.clear();
        Person p = new Person();
        p.then = formulas();
        p.own = formulas();
        people.add(p);
        return people.size() - 1;
    }

    boolean write(int person, int cell, int op, int a, int b) {
        need(person, people.size());
        Person p = people.get(person);
        need(cell, p.own.size());
        refuse(wrong(op, a, b, p.own.size()), new IllegalArgumentException());
        Formula f = new Formula(op, a, b);
        return !f.equals(p.own.set(cell, f));
    }

    private List<Integer> editsOf(Person p) {
        List<Integer> all = new ArrayList<>();
        for (int i = 0; i < p.own.size(); i++) {
            if (!p.own.get(i).equals(p.then.get(i))) {
                all.add(i);
            }
        }
        return all;
    }

    int join(int person) {
        need(person, people.size());
        Person p = people.get(person);
        int clashes = 0;
        for (int i : editsOf(p)) {
            Formula f = cells.get(i).formula;
            if (!f.equals(p.then.get(i)) && !f.equals(p.own.get(i))) {
                clashes++;
            }
        }
        if (clashes == 0) {
            keep();
            for (int i : editsOf(p)) {
                setFormula(i, p.own.get(i));
            }
            p.then = formulas();
            p.own = formulas();
        }
        return clashes;
    }

    int edits(int person) {
        need(person, people.size());
        return editsOf(people.get(person)).size();
    }

    boolean undo() {
        if (before.isEmpty()) {
            return false;
        }
        Whole w = before.remove(before.size() - 1);
        sources = w.sources;
        cells = w.cells;
        workedCells = new ArrayList<>();
        return true;
    }

    int uses(int cell, int k) {
        need(cell, cells.size());
        TreeSet<Integer> all = reached(cell);
        all.add(cell);
        TreeSet<Integer> found = new TreeSet<>();
        for (int c : all) {
            Formula f = cells.get(c).formula;
            if (f.a < 0) {
                found.add(-1 - f.a);
            }
            if (f.b < 0) {
                found.add(-1 - f.b);
            }
        }
        need(k, found.size());
        return new ArrayList<>(found).get(k);
    }

    /** Tries every length and every first cell, the lowest first: the shortest circle, or an empty list. */
    private List<Integer> shortest() {
        TreeSet<Integer> starts = circling();
        for (int length = 1; length <= starts.size(); length++) {
            for (int start : starts) {
                List<Integer> way = wayRound(start, length);
                if (!way.isEmpty()) {
                    return way;
                }
            }
        }
        return List.of();
    }

    private List<Integer> wayRound(int start, int length) {
        List<TreeSet<Integer>> back = comeBack(start, length);
        if (!back.get(length).contains(start)) {
            return List.of();
        }
        List<Integer> way = new ArrayList<>(List.of(start));
        for (int left = length - 1; left > 0; left--) {
            Formula f = cells.get(way.get(way.size() - 1)).formula;
            int low = Math.min(f.a, f.b);
            way.add(back.get(left).contains(low) ? low : Math.max(f.a, f.b));
        }
        return way;
    }

    /** At place n the cells that come to the start in exactly n uses. */
    private List<TreeSet<Integer>> comeBack(int start, int length) {
        List<TreeSet<Integer>> back = new ArrayList<>();
        back.add(new TreeSet<>(List.of(start)));
        for (int uses = 1; uses <= length; uses++) {
            TreeSet<Integer> now = new TreeSet<>();
            for (int i = 0; i < cells.size(); i++) {
                Formula f = cells.get(i).formula;
                if (back.get(uses - 1).contains(f.a) || back.get(uses - 1).contains(f.b)) {
                    now.add(i);
                }
            }
            back.add(now);
        }
        return back;
    }

    int circle() {
        return shortest().size();
    }

    int circleAt(int k) {
        need(k, shortest().size());
        return shortest().get(k);
    }

    int count(int what) {
        return switch (what) {
            case 0 -> sources.size();
            case 1 -> cells.size();
            case 2 -> people.size();
            case 3 -> before.size();
            case 4 -> workedCells.size();
            case 5 -> workedInAll;
            case 6, 7, 8, 9 -> (int) cells.stream().filter(c -> c.state == what - 6).count();
            default -> -1;
        };
    }
}
