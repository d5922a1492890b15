/** Promises 34 to 41: SHEETS, SHELVES, ACTS, THE TRACE, how many there are. */
public final class HostTest {
    private static final Checks c = new Checks();

    public static void main(String[] args) {
        sheet();
        put();
        item();
        shelf();
        taken();
        acts();
        parted();
        noAct();
        gone();
        many();
        c.end();
    }

    private static void sheet() {
        FlakeArms x = new FlakeArms();
        c.due(34, "sheet(0, 0, 40)", x.sheet(0, 0, 40), 1);
        c.due(34, "item(0, 0, 39)", x.item(0, 0, 39), 0);
        c.due(34, "item(0, 0, 40)", x.item(0, 0, 40), -12);
        x.put(0, 3, 9);
        x.put(0, 0, 8);
        c.due(34, "sheet(0, 0, 41)", x.sheet(0, 0, 41), -1);
        c.due(34, "sheet(0, 0, -1)", x.sheet(0, 0, -1), -14);
        c.due(34, "sheet(0, 0, MIN)", x.sheet(0, 0, Integer.MIN_VALUE), -14);
        c.due(34, "sheet(0, 4, -1)", x.sheet(0, 4, -1), -1);
        c.due(34, "sheet(0, -2, 1)", x.sheet(0, -2, 1), -1);
        c.due(34, "sheet(4, 0, 1)", x.sheet(4, 0, 1), -1);
        c.due(34, "sheet(-1, 0, 1)", x.sheet(-1, 0, 1), -1);
        c.due(34, "item(0, 0, 3)", x.item(0, 0, 3), 9);
        c.due(34, "sheet(0, 1, 5)", x.sheet(0, 1, 5), 1);
        c.due(34, "item(0, 1, 3)", x.item(0, 1, 3), 0);
        c.due(34, "item(0, 1, 0)", x.item(0, 1, 0), 0);
        c.due(34, "item(0, 0, 3)", x.item(0, 0, 3), -13);
        c.due(34, "sheet(0, -1, 99)", x.sheet(0, -1, 99), 1);
        c.due(34, "item(0, 1, 3)", x.item(0, 1, 3), -11);
        c.due(34, "sheet(0, -1, -99)", x.sheet(0, -1, -99), 1);
        c.due(34, "sheet(3, 3, 0)", x.sheet(3, 3, 0), 1);
        c.due(34, "item(3, 3, 0)", x.item(3, 3, 0), -12);
    }

    private static void put() {
        FlakeArms x = new FlakeArms();
        c.due(35, "put(0, 0, 1)", x.put(0, 0, 1), -11);
        int[] want = {0x34, (short) 0x9234, 0x76549234, 0x76549234};
        for (int sort = 0; sort < 4; sort++) {
            x.sheet(sort, sort, 3);
            c.due(35, "put", x.put(sort, 2, 0x76549234), 1);
            c.due(35, "item(" + sort + ", " + sort + ", 2)", x.item(sort, sort, 2), want[sort]);
            c.due(35, "put -1", x.put(sort, 1, -1), 1);
            c.due(35, "item(" + sort + ", " + sort + ", 1)", x.item(sort, sort, 1), -1);
            c.due(35, "item(" + sort + ", " + sort + ", 0)", x.item(sort, sort, 0), 0);
        }
        x.put(0, 0, 200);
        c.due(35, "item(0, 0, 0)", x.item(0, 0, 0), -56);
        c.due(35, "put(0, 3, 1)", x.put(0, 3, 1), -12);
        c.due(35, "put(0, -1, 1)", x.put(0, -1, 1), -12);
        c.due(35, "put(4, 0, 1)", x.put(4, 0, 1), -1);
        c.due(35, "put(-1, 0, 1)", x.put(-1, 0, 1), -1);
    }

    private static void item() {
        FlakeArms x = new FlakeArms();
        c.due(36, "item(0, 0, 0)", x.item(0, 0, 0), -11);
        c.due(36, "item(0, 4, 0)", x.item(0, 4, 0), -1);
        x.sheet(0, 2, 2);
        x.put(0, 1, -13);
        c.due(36, "item(0, 2, 1)", x.item(0, 2, 1), -13);
        c.due(36, "item(0, 3, 1)", x.item(0, 3, 1), -13);
        c.due(36, "item(0, 3, 9)", x.item(0, 3, 9), -13);
        c.due(36, "item(0, 2, 2)", x.item(0, 2, 2), -12);
        c.due(36, "item(0, 2, -1)", x.item(0, 2, -1), -12);
        c.due(36, "item(0, 4, 0)", x.item(0, 4, 0), -1);
        c.due(36, "item(0, -1, 0)", x.item(0, -1, 0), -1);
        c.due(36, "item(4, 2, 0)", x.item(4, 2, 0), -1);
    }

    private static void shelf() {
        FlakeArms x = new FlakeArms();
        c.due(37, "shelf(0, 0, 0)", x.shelf(0, 0, 0), -1);
        x.growth(0, 5);
        c.due(37, "shelf(0, 0, 0)", x.shelf(0, 0, 0), 1);
        c.due(37, "shelf(0, 0, 1)", x.shelf(0, 0, 1), -1);
        c.due(37, "shelf(0, 1, 4)", x.shelf(0, 1, 4), -1);
        c.due(37, "shelf(0, 1, -1)", x.shelf(0, 1, -1), -1);
        c.due(37, "shelf(0, 3, 0)", x.shelf(0, 3, 0), -1);
        c.due(37, "shelf(0, -1, 0)", x.shelf(0, -1, 0), -1);
        c.due(37, "shelf(4, 0, 0)", x.shelf(4, 0, 0), -1);
        c.due(37, "shelf(-1, 2, 0)", x.shelf(-1, 2, 0), -1);
        c.due(37, "taken(0, 0)", x.taken(0, 0), 0);
        c.due(37, "shelf(0, 1, 2) of a missing SHEET", x.shelf(0, 1, 2), 1);
        c.due(37, "taken(0, 0)", x.taken(0, 0), -11);
        x.sheet(2, 1, 7);
        c.due(37, "taken(0, 11)", x.taken(0, 11), -11);
        c.due(37, "shelf(0, 1, 2)", x.shelf(0, 1, 2), 1);
        c.due(37, "taken(0, 11)", x.taken(0, 11), 7);
        c.due(37, "shelf(0, 2, 99)", x.shelf(0, 2, 99), 1);
        c.due(37, "taken(0, 11)", x.taken(0, 11), -11);
    }

    private static void taken() {
        FlakeArms x = new FlakeArms();
        // Rows: what a KIND may be taken for.
        int[][] under = {{0}, {0, 1}, {0, 2}, {0, 1, 3}, {0, 1, 3, 4}, {0, 5}};
        for (int kind = 0; kind < 6; kind++) {
            x.growth(kind, 1);
            x.shelf(1, 0, kind);
            for (int as = 0; as < 6; as++) {
                boolean fits = false;
                for (int k : under[kind]) {
                    fits = fits || k == as;
                }
                c.due(38, "taken(1, " + as + ") of KIND " + kind, x.taken(1, as), fits ? kind : -13);
            }
            c.due(38, "taken(1, 10) of a GROWTH", x.taken(1, 10), -13);
        }
        for (int sort = 0; sort < 4; sort++) {
            x.sheet(0, sort, 30 + sort);
            x.shelf(2, 1, 0);
            for (int as = 10; as < 14; as++) {
                c.due(38, "taken(2, " + as + ")", x.taken(2, as), as - 10 == sort ? 30 + sort : -13);
            }
            c.due(38, "taken(2, 0) of a row", x.taken(2, 0), -13);
        }
        c.due(38, "taken(3, 0)", x.taken(3, 0), -11);
        c.due(38, "taken(3, 13)", x.taken(3, 13), -11);
        c.due(38, "taken(3, 6)", x.taken(3, 6), -1);
        c.due(38, "taken(3, 9)", x.taken(3, 9), -1);
        c.due(38, "taken(3, 14)", x.taken(3, 14), -1);
        c.due(38, "taken(3, -1)", x.taken(3, -1), -1);
        c.due(38, "taken(4, 0)", x.taken(4, 0), -1);
        // A row stays on its SHELF, whatever the SHEET becomes.
        x.sheet(0, 1, 3);
        x.shelf(2, 1, 0);
        x.sheet(0, -1, 0);
        c.due(38, "taken(2, 11)", x.taken(2, 11), 3);
    }

    private static void actIs(FlakeArms x, int shelf, int act, int arg, int want, int... bodies) {
        String call = "act(" + shelf + ", " + act + ", " + arg + ")";
        c.due(39, call, x.act(shelf, act, arg), want);
        c.due(41, "many(4) behind " + call, x.many(4), bodies.length);
        for (int i = 0; i < bodies.length; i++) {
            c.due(40, "trace(" + i + ") behind " + call, x.trace(i), bodies[i]);
        }
        c.due(40, "trace(" + bodies.length + ") behind " + call, x.trace(bodies.length), -3);
        c.due(40, "trace(-1) behind " + call, x.trace(-1), -3);
    }

    /** A SHELF with GROWTH n of a KIND with A; those below n are of KIND 0. */
    private static FlakeArms with(int kind, int n, int a) {
        FlakeArms x = new FlakeArms();
        for (int i = 0; i < n; i++) {
            x.growth(0, 0);
        }
        x.growth(kind, a);
        x.shelf(3, 0, n);
        return x;
    }

    private static void acts() {
        // n = 2, a = 9, x = 20: grows 22, takes 44, shares 20 / 7 = 2, tells 44 ^ 9 = 37.
        FlakeArms x = with(0, 2, 9);
        actIs(x, 3, 0, 20, 22, 10);
        actIs(x, 3, 1, 20, 44, 11, 10);
        actIs(x, 3, 2, 20, 2, 12);
        actIs(x, 3, 2, -20, -2, 12);
        actIs(x, 3, 3, 20, 37, 13, 11, 10);
        actIs(x, 3, 0, Integer.MAX_VALUE, Integer.MIN_VALUE + 1, 10);
        x = with(1, 2, 9);
        actIs(x, 3, 0, 20, 22, 10);
        actIs(x, 3, 1, 20, 35, 20, 11, 10);
        actIs(x, 3, 2, 20, 2, 12);
        actIs(x, 3, 3, 20, 35 ^ 9, 13, 20, 11, 10);
        x = with(2, 2, 9);
        actIs(x, 3, 0, 20, -22, 30, 10);
        actIs(x, 3, 1, 20, -44, 11, 30, 10);
        actIs(x, 3, 2, 20, 2, 12);
        actIs(x, 3, 3, 20, (-44 ^ 9) + 0, 31, 13, 11, 30, 10, 12);
        x = with(2, 3, 4);
        actIs(x, 3, 3, 1, (-8 ^ 4) + 3, 31, 13, 11, 30, 10, 12);
        x = with(3, 2, 9);
        actIs(x, 3, 0, 20, 66, 40, 10);
        actIs(x, 3, 1, 20, 132 - 9 + 12, 41, 20, 11, 40, 10, 40, 10);
        actIs(x, 3, 2, 20, 2, 12);
        actIs(x, 3, 3, 20, 135 ^ 9, 13, 41, 20, 11, 40, 10, 40, 10);
        x = with(4, 2, 9);
        actIs(x, 3, 0, 20, 64, 51, 40, 10);
        actIs(x, 3, 1, 20, 128 - 9 + 10, 41, 20, 11, 51, 40, 10, 51, 40, 10);
        actIs(x, 3, 2, 20, 3 ^ 1, 50, 12);
        actIs(x, 3, 2, 25, 3 ^ 1, 50, 12);
        actIs(x, 3, 2, 26, 4 ^ 1, 50, 12);
        actIs(x, 3, 3, 20, 129 ^ 9, 13, 41, 20, 11, 51, 40, 10, 51, 40, 10);
        x = with(5, 2, 9);
        actIs(x, 3, 0, 20, 22, 10);
        actIs(x, 3, 1, 20, 44, 11, 10);
        actIs(x, 3, 2, 20, 2 + 11, 61, 12, 10);
        actIs(x, 3, 3, 20, 74, 60, 13, 11, 10);
    }

    private static void parted() {
        actIs(with(0, 3, 3), 3, 2, 8, -15, 12);
        actIs(with(0, 3, 3), 3, 3, 8, 22 ^ 3, 13, 11, 10);
        actIs(with(2, 3, 3), 3, 3, 8, -15, 31, 13, 11, 30, 10, 12);
        actIs(with(4, 3, 3), 3, 2, 8, -15, 50, 12);
        actIs(with(5, 3, 3), 3, 2, 8, -15, 61, 12);
        FlakeArms x = with(5, 3, 3);
        x.act(3, 2, 8);
        actIs(x, 3, 0, 8, 11, 10);
        // By -1 the lowest int wraps.
        actIs(with(0, 3, 2), 3, 2, Integer.MIN_VALUE, Integer.MIN_VALUE, 12);
        // -15 may be what is worked out, too.
        actIs(with(0, 0, 1), 3, 0, -15, -15, 10);
    }

    private static void noAct() {
        FlakeArms x = with(0, 0, 5);
        int[][] none = {{4, 0}, {-1, 0}, {3, 4}, {3, -1}, {0, 0}, {1, 0}};
        x.sheet(0, 2, 3);
        x.shelf(1, 1, 0);
        for (int[] call : none) {
            x.act(3, 0, 1);
            actIs(x, call[0], call[1], 7, 0);
        }
        FlakeArms y = new FlakeArms();
        c.due(40, "trace(0)", y.trace(0), -3);
    }

    /** A GROWTH that is there no more isn't on its SHELF either. */
    private static void gone() {
        FlakeArms x = new FlakeArms();
        x.growth(1, 7);
        x.keep();
        x.growth(3, 8);
        x.shelf(0, 0, 1);
        x.shelf(1, 0, 0);
        x.again();
        c.due(38, "taken(0, 0)", x.taken(0, 0), -11);
        c.due(38, "taken(1, 1)", x.taken(1, 1), 0);
        actIs(x, 0, 0, 5, 0);
        x.growth(5, 9);
        c.due(38, "taken(0, 5)", x.taken(0, 5), 1);
        actIs(x, 0, 2, 16, 2 + 10, 61, 12, 10);
    }

    private static void many() {
        FlakeArms x = new FlakeArms();
        c.due(41, "many(5)", x.many(5), -1);
        c.due(41, "many(-1)", x.many(-1), -1);
        x.growth(0, 1);
        x.growth(4, 1);
        Checks.law(x, "use 1; use 2; pick if 1=1;");
        x.grow(0, 0);
        x.grow(0, 0);
        x.grow(0, 0);
        x.prove(0);
        x.feed(1, 5);
        x.shelf(0, 0, 1);
        x.act(0, 3, 0);
        c.due(41, "many(0)", x.many(0), 2);
        c.due(41, "many(1)", x.many(1), 3);
        c.due(41, "many(2)", x.many(2), 4);
        c.due(41, "many(3)", x.many(3), 5);
        c.due(41, "many(4)", x.many(4), 10);
    }
}
