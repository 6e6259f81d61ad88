/** Sheets that several tests begin with. */
final class Sheets {
    private Sheets() {
    }

    /** Source k is k + 1; cell 0 is source 0 + source 0, and each cell is the one before + the next source in turn. */
    static SheetNeeds of(int sources, int cells, int people) {
        SheetNeeds x = new SheetNeeds();
        for (int i = 0; i < sources; i++) {
            x.source(i + 1);
        }
        for (int i = 0; i < cells; i++) {
            x.cell(0, i == 0 ? -1 : i - 1, -1 - i % sources);
        }
        for (int i = 0; i < people; i++) {
            x.person();
        }
        return x;
    }

    static SheetNeeds full() {
        return of(60, 150, 4);
    }

    /** One source a number, and no cells. */
    static SheetNeeds withSources(long... numbers) {
        SheetNeeds x = new SheetNeeds();
        for (long v : numbers) {
            x.source(v);
        }
        return x;
    }

    /** Source 0 is 1, and all cells are it + it: to be edited. */
    static SheetNeeds plain(int cells) {
        SheetNeeds x = withSources(1);
        for (int i = 0; i < cells; i++) {
            x.cell(0, -1, -1);
        }
        return x;
    }
}
