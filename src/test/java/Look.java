/** All that can be asked of a small sheet, as a text: two sheets with the same text are as good as the same. */
final class Look {
    private interface Asked {
        Object call();
    }

    private final SheetNeeds x;
    private final StringBuilder seen = new StringBuilder();

    private Look(SheetNeeds x) {
        this.x = x;
    }

    /** By calls that change nothing. */
    static String at(SheetNeeds x) {
        Look look = new Look(x);
        look.all();
        return look.seen.toString();
    }

    /**
     * By all calls: also what can be undone, the sources, what is told to fail, the next run and the copies. The sheet
     * is used up by it. For up to four cells and two things to undo it makes some 300 calls.
     */
    static String through(SheetNeeds x) {
        Look look = new Look(x);
        look.all();
        look.hidden();
        while (x.undo()) {
            look.seen.append("\nundone: ");
            look.all();
            look.hidden();
        }
        look.add("\nrun", () -> x.run());
        look.all();
        for (int i = 0; i < x.count(2); i++) {
            int person = i;
            look.add("\njoin", () -> x.join(person));
            look.formulas();
        }
        return look.seen.toString();
    }

    private String answer(Asked asked) {
        try {
            return String.valueOf(asked.call());
        } catch (RuntimeException e) {
            return e.getClass().getSimpleName();
        }
    }

    private void add(String name, Asked asked) {
        seen.append(name).append(' ').append(answer(asked)).append("; ");
    }

    private void all() {
        for (int i = 0; i < 10; i++) {
            int what = i;
            add("count" + i, () -> x.count(what));
        }
        for (int i = 0; i < x.count(4); i++) {
            int k = i;
            add("worked", () -> x.worked(k));
        }
        for (int i = 0; i < x.count(1); i++) {
            int cell = i;
            add("state", () -> x.state(cell));
            add("at", () -> x.at(cell));
        }
        for (int i = 0; i < x.count(2); i++) {
            int person = i;
            add("edits", () -> x.edits(person));
        }
        formulas();
    }

    private void formulas() {
        for (int i = 0; i < x.count(1); i++) {
            int cell = i;
            add("op", () -> x.formula(cell, 0));
            add("a", () -> x.formula(cell, 1));
            add("b", () -> x.formula(cell, 2));
        }
        int length = x.circle();
        for (int i = 0; i < length; i++) {
            int k = i;
            add("circle", () -> x.circleAt(k));
        }
    }

    /** What is told only by the call that changes it: that call is undone. */
    private void hidden() {
        for (int i = 0; i < x.count(0); i++) {
            int source = i;
            add("source", () -> x.change(source, 0));
            x.undo();
        }
        for (int i = 0; i < x.count(1); i++) {
            int cell = i;
            add("told", () -> x.fail(cell, false));
            x.undo();
        }
    }
}
