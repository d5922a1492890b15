/** Promises 29 to 33: ROWS, THE READER, CELLS told by a SHEET. */
public final class RowsTest {
    private static final Checks c = new Checks();

    public static void main(String[] args) {
        prove();
        row();
        alterRow();
        judge();
        copies();
        refusedCopies();
        c.end();
    }

    private static void prove() {
        FlakeArms x = new FlakeArms();
        c.due(29, "prove(0)", x.prove(0), 1);
        x.growth(0, 63);
        for (int i = 0; i < 5; i++) {
            x.grow(1, 0);
        }
        c.due(29, "prove(1)", x.prove(1), 6);
        c.due(29, "many(2)", x.many(2), 6);
        c.due(29, "prove(4)", x.prove(4), -1);
        c.due(29, "prove(-1)", x.prove(-1), -1);
        c.due(29, "many(2)", x.many(2), 6);
        c.due(29, "row(5, 1)", x.row(5, 1), 30);
        x.freeze(2, 0, 0, false);
        c.due(29, "prove(2) of none", x.prove(2), 0);
        c.due(29, "many(2)", x.many(2), 0);
    }

    private static void row() {
        FlakeArms x = new FlakeArms();
        c.due(30, "row(0, 0)", x.row(0, 0), -9);
        x.freeze(0, 3, -1, true);
        x.freeze(0, -2, -1, true);
        x.freeze(0, 5, 0, true);
        x.prove(0);
        c.due(30, "row(0, 0)", x.row(0, 0), 0);
        c.due(30, "row(0, 1)", x.row(0, 1), 1);
        c.due(30, "row(1, 0)", x.row(1, 0), 3);
        c.due(30, "row(1, 1)", x.row(1, 1), 2);
        c.due(30, "row(2, 0)", x.row(2, 0), 5);
        c.due(30, "row(2, 1)", x.row(2, 1), 1);
        c.due(30, "row(3, 0)", x.row(3, 0), -9);
        c.due(30, "row(-1, 0)", x.row(-1, 0), -9);
        c.due(30, "row(0, 2)", x.row(0, 2), -9);
        c.due(30, "row(0, -1)", x.row(0, -1), -9);
        x.begin(0);
        c.due(30, "row(2, 0) of a FLAKE that changed", x.row(2, 0), 5);
    }

    private static void alterRow() {
        FlakeArms x = new FlakeArms();
        c.due(31, "alterRow(0, 0, 1)", x.alterRow(0, 0, 1), -9);
        x.prove(0);
        c.due(31, "alterRow(0, 1, MIN)", x.alterRow(0, 1, Integer.MIN_VALUE), 1);
        c.due(31, "alterRow(0, 0, 7)", x.alterRow(0, 0, 7), 0);
        c.due(31, "row(0, 1)", x.row(0, 1), Integer.MIN_VALUE);
        c.due(31, "row(0, 0)", x.row(0, 0), 7);
        c.due(31, "alterRow(1, 0, 1)", x.alterRow(1, 0, 1), -9);
        c.due(31, "alterRow(-1, 0, 1)", x.alterRow(-1, 0, 1), -9);
        c.due(31, "alterRow(0, 2, 1)", x.alterRow(0, 2, 1), -9);
        c.due(31, "alterRow(0, -1, 1)", x.alterRow(0, -1, 1), -9);
        c.due(31, "row(0, 0)", x.row(0, 0), 7);
    }

    private static void judge() {
        FlakeArms x = new FlakeArms();
        c.due(32, "judge(0) of no ROWS", x.judge(0), 222);
        x.freeze(3, 0, 0, false);
        c.due(32, "judge(3) of no ROWS", x.judge(3), 0);
        x.growth(0, 1);
        x.grow(1, 0);
        x.prove(1);
        c.due(32, "judge(1)", x.judge(1), 0);
        c.due(32, "judge(0): a ROW too many", x.judge(0), 2);
        c.due(32, "judge(3): a ROW too many", x.judge(3), 1);
        x.grow(1, 0);
        c.due(32, "judge(1): fewer", x.judge(1), 222);
        x.alterRow(1, 0, 2);
        c.due(32, "judge(1): another RING", x.judge(1), 2);
        x.alterRow(0, 1, 0);
        c.due(32, "judge(1): the first", x.judge(1), 1);
        x.alterRow(0, 1, 1);
        x.alterRow(1, 0, 1);
        x.alterRow(1, 1, 5);
        c.due(32, "judge(1): another number", x.judge(1), 2);
        x.alterRow(1, 1, 6);
        c.due(32, "judge(1): fewer", x.judge(1), 222);
        c.due(32, "judge(4)", x.judge(4), -1);
        c.due(32, "judge(-1)", x.judge(-1), -1);
    }

    private static void copies() {
        FlakeArms x = new FlakeArms();
        x.growth(0, 0);
        x.grow(0, 0);
        x.grow(0, 0);
        x.sheet(0, 2, 12);
        // r = -5 begins with q = 0, r = -1 with q = -4, r = 0 and what follows with q = -5.
        x.put(0, 0, 1);
        x.put(0, 4, 1 << 9);
        x.put(0, 5, 1 << 5);
        x.put(0, 6, 1);
        x.put(0, 10, 1 << 5 | 1 << 6 | 1 << 31);
        x.put(0, 11, -1);
        c.due(33, "copies(0, 0)", x.copies(0, 0), 5);
        c.due(33, "cell(0, 0, -5)", x.cell(0, 0, -5), 2);
        c.due(33, "cell(0, 5, -1)", x.cell(0, 5, -1), 2);
        c.due(33, "cell(0, 0, 0)", x.cell(0, 0, 0), 2);
        c.due(33, "cell(0, -5, 1)", x.cell(0, -5, 1), 2);
        c.due(33, "cell(0, 0, 5)", x.cell(0, 0, 5), 2);
        c.due(33, "size(0, 0)", x.size(0, 0), 5);
        c.due(33, "size(0, 4)", x.size(0, 4), 2);
        for (int i = 0; i < 11; i++) {
            x.put(0, i, -1);
        }
        c.due(33, "copies(1, 0) of all", x.copies(1, 0), 91);
        x.sheet(1, 2, 1);
        x.put(1, 0, 32);
        c.due(33, "copies(1, 1) of one item", x.copies(1, 1), 1);
        c.due(33, "cell(1, 5, -5)", x.cell(1, 5, -5), 0);
        x.sheet(1, 2, 0);
        c.due(33, "copies(1, 1) of no item", x.copies(1, 1), 0);
    }

    private static void refusedCopies() {
        FlakeArms x = new FlakeArms();
        c.due(33, "copies(0, 0)", x.copies(0, 0), -11);
        c.due(33, "copies(4, 0)", x.copies(4, 0), -1);
        c.due(33, "copies(0, 4)", x.copies(0, 4), -1);
        c.due(33, "copies(0, -1)", x.copies(0, -1), -1);
        for (int sort = 0; sort < 4; sort++) {
            x.sheet(0, sort, 11);
            c.due(33, "copies(0, 0) of sort " + sort, x.copies(0, 0), sort == 2 ? 0 : -13);
            x.begin(0);
        }
        c.due(33, "size(0, 0)", x.size(0, 0), 1);
    }
}
