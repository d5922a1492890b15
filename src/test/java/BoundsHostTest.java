/** SHEETS, SHELVES, ACTS and promises 34 to 41: each sentence that names a boundary case. */
public final class BoundsHostTest {
    private static final int MIN = Integer.MIN_VALUE;
    private static final int MAX = Integer.MAX_VALUE;
    private static final int[][] UNDER = {{0}, {0, 1}, {0, 2}, {0, 1, 3}, {0, 1, 3, 4}, {0, 5}};
    private static final Checks c = new Checks();

    public static void main(String[] args) {
        sheetsAtFirst();
        fortyAtMost();
        missingWhateverN();
        sheetRefused();
        allZero();
        placesOfPut();
        narrowed();
        lowest32Bits();
        itemRefused();
        asLowAsThese();
        shelvesAtFirst();
        shelfHolds();
        shelfRefused();
        takenForAKind();
        takenForARow();
        takenRefused();
        goneGrowth();
        rowOfASheet();
        actsOf0To3();
        actsWrap();
        cutTowards0();
        partedBy0();
        thatIsAll();
        bodiesThatRanWhenParted();
        bodiesOfEachKind();
        noAct();
        traceRefused();
        firstThirty();
        many();
        c.end();
    }

    private static void sheetsAtFirst() {
        c.by(34, "or missing (at first)");
        FlakeArms x = new FlakeArms();
        for (int sheet = 0; sheet < 4; sheet++) {
            for (int sort = 0; sort < 4; sort++) {
                c.due("item(" + sheet + ", " + sort + ", 0)", x.item(sheet, sort, 0), -11);
            }
            c.due("put(" + sheet + ", 0, 1)", x.put(sheet, 0, 1), -11);
            c.due("copies(0, " + sheet + ")", x.copies(0, sheet), -11);
            c.due("shelf(0, 1, " + sheet + ")", x.shelf(0, 1, sheet), 1);
            c.due("taken(0, 12)", x.taken(0, 12), -11);
        }
    }

    private static void fortyAtMost() {
        c.by(34, "SHEETS 0 to 3 are rows of bytes (sort 0), shorts (1), ints (2) or longs (3), 40 at most");
        for (int sheet = 0; sheet < 4; sheet++) {
            for (int sort = 0; sort < 4; sort++) {
                FlakeArms x = new FlakeArms();
                c.due("sheet(" + sheet + ", " + sort + ", 41)", x.sheet(sheet, sort, 41), -1);
                c.due("item(" + sheet + ", " + sort + ", 0)", x.item(sheet, sort, 0), -11);
                for (int n : new int[] {0, 1, 39, 40}) {
                    c.due("sheet(" + sheet + ", " + sort + ", " + n + ")", x.sheet(sheet, sort, n), 1);
                    c.due("item of the place " + n, x.item(sheet, sort, n), -12);
                    c.due("put to the place " + n, x.put(sheet, n, 5), -12);
                    if (n > 0) {
                        c.due("item of the last place", x.item(sheet, sort, n - 1), 0);
                        c.due("put to the last place", x.put(sheet, n - 1, 5), 1);
                        c.due("item of the last place", x.item(sheet, sort, n - 1), 5);
                    }
                    x.shelf(0, 1, sheet);
                    c.due("taken(0, " + (10 + sort) + ")", x.taken(0, 10 + sort), n);
                }
                for (int n : new int[] {41, 42, 1 << 20, MAX}) {
                    c.due("sheet(" + sheet + ", " + sort + ", " + n + ")", x.sheet(sheet, sort, n), -1);
                }
                c.due("item of the last place", x.item(sheet, sort, 39), 5);
            }
        }
    }

    private static void missingWhateverN() {
        c.by(34, "or missing (sort -1; n counts nothing then): 1.");
        FlakeArms x = new FlakeArms();
        for (int n : new int[] {0, 40, 41, -1, MIN, MAX}) {
            x.sheet(2, 0, 3);
            c.due("item(2, 0, 2)", x.item(2, 0, 2), 0);
            c.due("sheet(2, -1, " + n + ")", x.sheet(2, -1, n), 1);
            c.due("item(2, 0, 2)", x.item(2, 0, 2), -11);
            c.due("sheet(2, -1, " + n + ") once more", x.sheet(2, -1, n), 1);
            c.due("put(2, 0, 1)", x.put(2, 0, 1), -11);
        }
    }

    private static void sheetRefused() {
        c.by(34, "BAD: no such SHEET, sort, n above 40; -14.");
        FlakeArms x = new FlakeArms();
        x.sheet(3, 1, 4);
        x.put(3, 3, 77);
        for (int sort = 0; sort < 4; sort++) {
            for (int n : new int[] {-1, -2, -40, MIN}) {
                c.due("sheet(3, " + sort + ", " + n + ")", x.sheet(3, sort, n), -14);
                c.due("sheet(0, " + sort + ", " + n + ")", x.sheet(0, sort, n), -14);
            }
        }
        for (int n : new int[] {0, 4, 41, -1}) {
            for (int bad : new int[] {-1, 4, MIN, MAX}) {
                c.due("sheet(" + bad + ", 0, " + n + ")", x.sheet(bad, 0, n), -1);
                c.due("sheet(" + bad + ", -1, " + n + ")", x.sheet(bad, -1, n), -1);
            }
            for (int sort : new int[] {-2, 4, MIN, MAX}) {
                c.due("sheet(3, " + sort + ", " + n + ")", x.sheet(3, sort, n), -1);
            }
        }
        c.due("item(3, 1, 3)", x.item(3, 1, 3), 77);
        c.due("item(0, 0, 0)", x.item(0, 0, 0), -11);
    }

    private static void allZero() {
        c.by(34, "A SHEET becomes a row of n of a sort, all 0");
        FlakeArms x = new FlakeArms();
        for (int sort = 0; sort < 4; sort++) {
            x.sheet(1, sort, 40);
            for (int i = 0; i < 40; i++) {
                x.put(1, i, -1);
            }
            c.due("sheet(1, " + sort + ", 40)", x.sheet(1, sort, 40), 1);
            for (int i = 0; i < 40; i++) {
                c.due("item(1, " + sort + ", " + i + ")", x.item(1, sort, i), 0);
            }
        }
    }

    private static void placesOfPut() {
        c.by(35, "Item i becomes v, narrowed to its sort: 1. BAD: no such SHEET; -11; -12.");
        FlakeArms x = new FlakeArms();
        c.due("put(0, 99, 1) of a missing one", x.put(0, 99, 1), -11);
        c.due("put(0, -1, 1) of a missing one", x.put(0, -1, 1), -11);
        for (int bad : new int[] {-1, 4, MIN, MAX}) {
            c.due("put(" + bad + ", 0, 1)", x.put(bad, 0, 1), -1);
            c.due("put(" + bad + ", -1, 1)", x.put(bad, -1, 1), -1);
        }
        for (int sort = 0; sort < 4; sort++) {
            x.sheet(sort, sort, 3);
            for (int i : new int[] {-1, 3, 4, 39, 40, 41, MIN, MAX}) {
                c.due("put(" + sort + ", " + i + ", 1)", x.put(sort, i, 1), -12);
            }
            for (int i = 0; i < 3; i++) {
                c.due("put(" + sort + ", " + i + ", 7)", x.put(sort, i, 7 + i), 1);
            }
            for (int i = 0; i < 3; i++) {
                c.due("item(" + sort + ", " + sort + ", " + i + ")", x.item(sort, sort, i), 7 + i);
            }
        }
    }

    private static void narrowed() {
        c.by(35, "Item i becomes v, narrowed to its sort");
        FlakeArms x = new FlakeArms();
        int[] numbers = {0, 1, -1, 127, 128, -128, -129, 255, 256, 257, -256, 32767, 32768, -32768, -32769, 65535, 65536,
            65537, -65536, MAX, MIN, MAX - 127, MIN + 128, 0x12345678, 0x8765abcd};
        for (int sort = 0; sort < 4; sort++) {
            x.sheet(sort, sort, 2);
            for (int v : numbers) {
                int due = sort == 0 ? (byte) v : sort == 1 ? (short) v : v;
                c.due("put(" + sort + ", 1, " + v + ")", x.put(sort, 1, v), 1);
                c.due("item(" + sort + ", " + sort + ", 1) of " + v, x.item(sort, sort, 1), due);
            }
            c.due("item(" + sort + ", " + sort + ", 0)", x.item(sort, sort, 0), 0);
        }
        c.due("item of a byte of 128", itemOf(x, 0, 128), -128);
        c.due("item of a byte of -129", itemOf(x, 0, -129), 127);
        c.due("item of a byte of 256", itemOf(x, 0, 256), 0);
        c.due("item of a short of 32768", itemOf(x, 1, 32768), -32768);
        c.due("item of a short of -32769", itemOf(x, 1, -32769), 32767);
        c.due("item of a short of 65536", itemOf(x, 1, 65536), 0);
        c.due("item of an int of 65536", itemOf(x, 2, 65536), 65536);
        c.due("item of a long of MIN", itemOf(x, 3, MIN), MIN);
    }

    private static int itemOf(FlakeArms x, int sort, int v) {
        x.put(sort, 0, v);
        return x.item(sort, sort, 0);
    }

    private static void lowest32Bits() {
        c.by(36, "Item i, taken for a sort (0 to 3; of longs the lowest 32 bits).");
        FlakeArms x = new FlakeArms();
        x.sheet(2, 3, 40);
        for (int v : new int[] {0, 1, -1, MIN, MAX, -2, 1 << 30}) {
            x.put(2, 39, v);
            c.due("item(2, 3, 39)", x.item(2, 3, 39), v);
            c.due("item(2, 3, 38)", x.item(2, 3, 38), 0);
        }
    }

    private static void itemRefused() {
        c.by(36, "BAD: no such SHEET, sort; -11; -13; -12.");
        FlakeArms x = new FlakeArms();
        for (int sort = 0; sort < 4; sort++) {
            x.sheet(sort, sort, 2);
        }
        for (int sheet = 0; sheet < 4; sheet++) {
            for (int sort = 0; sort < 4; sort++) {
                c.due("item(" + sheet + ", " + sort + ", 1)", x.item(sheet, sort, 1), sort == sheet ? 0 : -13);
                for (int i : new int[] {-1, 2, 40, MIN, MAX}) {
                    c.due("item(" + sheet + ", " + sort + ", " + i + ")", x.item(sheet, sort, i), sort == sheet ? -12 : -13);
                }
            }
            for (int sort : new int[] {-1, 4, MIN, MAX}) {
                c.due("item(" + sheet + ", " + sort + ", 0)", x.item(sheet, sort, 0), -1);
                c.due("item(" + sheet + ", " + sort + ", 9)", x.item(sheet, sort, 9), -1);
            }
        }
        for (int bad : new int[] {-1, 4, MIN, MAX}) {
            for (int sort = 0; sort < 4; sort++) {
                c.due("item(" + bad + ", " + sort + ", 0)", x.item(bad, sort, 0), -1);
            }
        }
        x.sheet(1, -1, 0);
        c.due("item(1, 4, 0) of a missing one", x.item(1, 4, 0), -1);
        c.due("item(1, 2, 0) of a missing one", x.item(1, 2, 0), -11);
        c.due("item(1, 1, -1) of a missing one", x.item(1, 1, -1), -11);
    }

    private static void asLowAsThese() {
        c.by(36, "(An item may be as low as these, too.)");
        FlakeArms x = new FlakeArms();
        for (int sort = 0; sort < 4; sort++) {
            x.sheet(sort, sort, 16);
            for (int v = -15; v <= 0; v++) {
                x.put(sort, -v, v);
            }
            for (int v = -15; v <= 0; v++) {
                c.due("item(" + sort + ", " + sort + ", " + -v + ")", x.item(sort, sort, -v), v);
            }
        }
    }

    private static void shelvesAtFirst() {
        c.by(38, "or nothing (at first).");
        FlakeArms x = new FlakeArms();
        x.growth(4, 9);
        x.sheet(0, 2, 5);
        for (int shelf = 0; shelf < 4; shelf++) {
            for (int as = 0; as < 6; as++) {
                c.due("taken(" + shelf + ", " + as + ")", x.taken(shelf, as), -11);
            }
            for (int as = 10; as < 14; as++) {
                c.due("taken(" + shelf + ", " + as + ")", x.taken(shelf, as), -11);
            }
            for (int act = 0; act < 4; act++) {
                c.due("act(" + shelf + ", " + act + ", 9)", x.act(shelf, act, 9), 0);
            }
        }
    }

    private static void shelfHolds() {
        c.by(37, "A SHELF holds GROWTH n (what 0), the row of SHEET n (1; nothing, if missing), nothing (2): 1.");
        FlakeArms x = new FlakeArms();
        for (int i = 0; i < 6; i++) {
            x.growth(0, 1);
        }
        for (int shelf = 0; shelf < 4; shelf++) {
            c.due("shelf(" + shelf + ", 0, 0)", x.shelf(shelf, 0, 0), 1);
            c.due("taken(" + shelf + ", 0)", x.taken(shelf, 0), 0);
            c.due("shelf(" + shelf + ", 0, 5)", x.shelf(shelf, 0, 5), 1);
            c.due("taken(" + shelf + ", 0)", x.taken(shelf, 0), 5);
            x.sheet(shelf, shelf, shelf);
            c.due("shelf(" + shelf + ", 1, " + shelf + ")", x.shelf(shelf, 1, shelf), 1);
            c.due("taken(" + shelf + ", " + (10 + shelf) + ")", x.taken(shelf, 10 + shelf), shelf);
            x.sheet(shelf, -1, 0);
            c.due("shelf(" + shelf + ", 1, " + shelf + ") of a missing one", x.shelf(shelf, 1, shelf), 1);
            c.due("taken(" + shelf + ", " + (10 + shelf) + ")", x.taken(shelf, 10 + shelf), -11);
            x.shelf(shelf, 0, 5 - shelf);
        }
        for (int shelf = 0; shelf < 4; shelf++) {
            c.due("taken(" + shelf + ", 0)", x.taken(shelf, 0), 5 - shelf);
        }
        for (int n : new int[] {0, -1, 4, 6, MIN, MAX}) {
            x.shelf(3, 0, 1);
            c.due("shelf(3, 2, " + n + ")", x.shelf(3, 2, n), 1);
            c.due("taken(3, 0)", x.taken(3, 0), -11);
        }
    }

    private static void shelfRefused() {
        c.by(37, "BAD: no such SHELF, what, thing.");
        FlakeArms x = new FlakeArms();
        c.due("shelf(0, 0, 0) without GROWTHS", x.shelf(0, 0, 0), -1);
        x.growth(1, 1);
        x.growth(2, 1);
        x.shelf(0, 0, 1);
        for (int n : new int[] {-1, 2, 5, 6, MIN, MAX}) {
            c.due("shelf(0, 0, " + n + ")", x.shelf(0, 0, n), -1);
        }
        for (int n : new int[] {-1, 4, MIN, MAX}) {
            c.due("shelf(0, 1, " + n + ")", x.shelf(0, 1, n), -1);
        }
        for (int what : new int[] {-1, 3, MIN, MAX}) {
            c.due("shelf(0, " + what + ", 0)", x.shelf(0, what, 0), -1);
        }
        for (int shelf : new int[] {-1, 4, MIN, MAX}) {
            for (int what = 0; what < 3; what++) {
                c.due("shelf(" + shelf + ", " + what + ", 0)", x.shelf(shelf, what, 0), -1);
            }
        }
        c.due("taken(0, 2)", x.taken(0, 2), 1);
    }

    private static void takenForAKind() {
        c.by(38, "What a SHELF holds taken for a thing of KIND as (0 to 5, or one under it): its number");
        for (int kind = 0; kind < 6; kind++) {
            FlakeArms x = new FlakeArms();
            for (int n = 0; n < 6; n++) {
                x.growth(kind, 1);
            }
            for (int n = 0; n < 6; n += 5) {
                x.shelf(3, 0, n);
                for (int as = 0; as < 6; as++) {
                    boolean is = false;
                    for (int above : UNDER[kind]) {
                        is = is || above == as;
                    }
                    c.due("taken(3, " + as + ") of KIND " + kind, x.taken(3, as), is ? n : -13);
                }
                for (int as = 10; as < 14; as++) {
                    c.due("taken(3, " + as + ") of KIND " + kind, x.taken(3, as), -13);
                }
            }
        }
    }

    private static void takenForARow() {
        c.by(38, "for a row of sort as - 10 (as 10 to 13): how many items.");
        FlakeArms x = new FlakeArms();
        for (int sort = 0; sort < 4; sort++) {
            for (int n : new int[] {0, 1, 40}) {
                x.sheet(0, sort, n);
                x.shelf(0, 1, 0);
                for (int as = 10; as < 14; as++) {
                    c.due("taken(0, " + as + ") of sort " + sort, x.taken(0, as), as - 10 == sort ? n : -13);
                }
                for (int as = 0; as < 6; as++) {
                    c.due("taken(0, " + as + ") of sort " + sort, x.taken(0, as), -13);
                }
            }
        }
    }

    private static void takenRefused() {
        c.by(38, "BAD: no such SHELF, as; -11; -13.");
        FlakeArms x = new FlakeArms();
        x.growth(3, 1);
        x.sheet(0, 2, 5);
        x.shelf(0, 0, 0);
        x.shelf(1, 1, 0);
        for (int as : new int[] {-1, 6, 7, 8, 9, 14, 15, MIN, MAX}) {
            for (int shelf = 0; shelf < 4; shelf++) {
                c.due("taken(" + shelf + ", " + as + ")", x.taken(shelf, as), -1);
            }
        }
        for (int shelf : new int[] {-1, 4, MIN, MAX}) {
            for (int as : new int[] {0, 5, 6, 10, 13, 14}) {
                c.due("taken(" + shelf + ", " + as + ")", x.taken(shelf, as), -1);
            }
        }
        c.due("taken(0, 2)", x.taken(0, 2), -13);
        c.due("taken(0, 12)", x.taken(0, 12), -13);
        c.due("taken(1, 0)", x.taken(1, 0), -13);
        c.due("taken(1, 11)", x.taken(1, 11), -13);
        c.due("taken(2, 0)", x.taken(2, 0), -11);
        c.due("taken(2, 13)", x.taken(2, 13), -11);
    }

    private static void goneGrowth() {
        c.by(38, "SHELVES 0 to 3 hold a GROWTH (by its number; nothing, if there is no such one any more)");
        FlakeArms x = new FlakeArms();
        x.growth(0, 9);
        x.keep();
        for (int i = 1; i < 6; i++) {
            x.growth(1, 9);
        }
        x.shelf(0, 0, 0);
        x.shelf(1, 0, 1);
        x.shelf(2, 0, 5);
        c.due("taken(2, 1)", x.taken(2, 1), 5);
        x.again();
        c.due("taken(0, 0)", x.taken(0, 0), 0);
        c.due("taken(1, 1)", x.taken(1, 1), -11);
        c.due("taken(2, 1)", x.taken(2, 1), -11);
        c.due("taken(2, 12)", x.taken(2, 12), -11);
        c.due("taken(2, 9)", x.taken(2, 9), -1);
        c.due("act(0, 0, 5)", x.act(0, 0, 5), 5);
        c.due("act(1, 0, 5)", x.act(1, 0, 5), 0);
        c.due("many(4)", x.many(4), 0);
        // By its number: the next GROWTH of that number is there.
        x.growth(2, 8);
        c.due("taken(1, 2)", x.taken(1, 2), 1);
        c.due("taken(1, 1)", x.taken(1, 1), -13);
        c.due("act(1, 0, 5)", x.act(1, 0, 5), -6);
        c.due("taken(2, 0)", x.taken(2, 0), -11);
    }

    private static void rowOfASheet() {
        c.by(38, "a SHEET's row, or nothing");
        FlakeArms x = new FlakeArms();
        x.sheet(0, 1, 7);
        x.shelf(0, 1, 0);
        x.shelf(1, 1, 0);
        x.put(0, 6, 99);
        c.due("taken(0, 11)", x.taken(0, 11), 7);
        c.due("taken(1, 11)", x.taken(1, 11), 7);
        x.shelf(1, 2, 0);
        c.due("taken(0, 11)", x.taken(0, 11), 7);
        c.due("taken(1, 11)", x.taken(1, 11), -11);
        // A missing SHEET's row is nothing, and stays so.
        x.shelf(2, 1, 3);
        x.sheet(3, 1, 7);
        c.due("taken(2, 11)", x.taken(2, 11), -11);
        c.due("act(0, 0, 1) of a row", x.act(0, 0, 1), 0);
    }

    /** A SHELF 3 with GROWTH n of a KIND with A. */
    private static FlakeArms with(int kind, int n, int a) {
        FlakeArms x = new FlakeArms();
        for (int i = 0; i < n; i++) {
            x.growth(1, 0);
        }
        x.growth(kind, a);
        x.shelf(3, 0, n);
        return x;
    }

    private static void act(FlakeArms x, int act, int arg, int want, int... bodies) {
        String call = "act(3, " + act + ", " + arg + ") of KIND " + x.growthOf(x.taken(3, 0), 0);
        c.due(call, x.act(3, act, arg), want);
        c.due("many(4) behind " + call, x.many(4), bodies.length);
        for (int i = 0; i < bodies.length; i++) {
            c.due("trace(" + i + ") behind " + call, x.trace(i), bodies[i]);
        }
        c.due("trace(" + bodies.length + ") behind " + call, x.trace(bodies.length), -3);
    }

    private static void actsOf0To3() {
        c.by(39, "An ACT (0 to 3) of the thing on a SHELF, with x.");
        FlakeArms x = with(0, 1, 6);
        act(x, 0, 10, 11, 10);
        act(x, 1, 10, 22, 11, 10);
        act(x, 2, 10, 2, 12);
        act(x, 3, 10, 22 ^ 6, 13, 11, 10);
        for (int act : new int[] {-1, 4, MIN, MAX}) {
            act(x, act, 10, 0);
        }
    }

    private static void actsWrap() {
        c.by(39, "ACTS of things, with a number x (ints that wrap)");
        FlakeArms x = with(0, 5, 63);
        act(x, 0, MAX, MIN + 4, 10);
        act(x, 0, MAX - 5, MAX, 10);
        act(x, 0, MAX - 4, MIN, 10);
        act(x, 1, MAX, 8, 11, 10);
        act(x, 1, 1 << 30, MIN + 10, 11, 10);
        act(x, 1, MIN, 10, 11, 10);
        act(x, 3, MIN, 10 ^ 63, 13, 11, 10);
        x = with(1, 5, 63);
        act(x, 1, (1 << 30) - 5, MAX - 62, 20, 11, 10);
        x = with(2, 5, 63);
        act(x, 0, MAX - 4, MIN, 30, 10);
        act(x, 0, MIN, MAX - 4, 30, 10);
        x = with(3, 5, 63);
        act(x, 0, MAX, (MIN + 4) * 3, 40, 10);
        act(x, 0, 715827883 - 5, MIN + 1, 40, 10);
        x = with(4, 5, 60);
        act(x, 0, 715827882 - 5 - 1, 3 * 715827881 - 5, 51, 40, 10);
        act(x, 0, -715827883 - 5, MAX - 5, 51, 40, 10);
        act(x, 0, 715827883 - 5, MAX - 3, 51, 40, 10);
        act(x, 2, MAX, (MIN + 1) / 55 ^ 1, 50, 12);
        act(x, 2, MAX - 2, MAX / 55 ^ 1, 50, 12);
        x = with(5, 5, 6);
        act(x, 2, MAX, MIN + 10, 61, 12, 10);
        act(x, 3, MAX, ((MIN + 4) * 2 ^ 6) * 2, 60, 13, 11, 10);
    }

    private static void cutTowards0() {
        c.by(39, "Quotients are cut towards 0.");
        int[][] due = {{7, 3}, {-7, -3}, {1, 0}, {-1, 0}, {2, 1}, {-2, -1}, {3, 1}, {-3, -1}, {0, 0}, {MIN, MIN / 2},
            {MAX, MAX / 2}};
        for (int[] xs : due) {
            act(with(0, 1, 3), 2, xs[0], xs[1], 12);
            act(with(0, 3, 1), 2, xs[0], xs[0] == MIN ? 1 << 30 : -xs[1], 12);
        }
        act(with(0, 0, 63), 2, 62, 0, 12);
        act(with(0, 0, 63), 2, 63, 1, 12);
        act(with(0, 0, 63), 2, -62, 0, 12);
        act(with(0, 0, 63), 2, -63, -1, 12);
        // By 1 and by -1; by -1 the lowest int wraps.
        act(with(0, 5, 6), 2, MIN, MIN, 12);
        act(with(0, 5, 4), 2, MAX, -MAX, 12);
        act(with(0, 5, 4), 2, MIN, MIN, 12);
    }

    private static void partedBy0() {
        c.by(39, "12 shares: x by (a - n), the rest away (-15 if these are the same");
        for (int kind = 0; kind < 6; kind++) {
            for (int n = 0; n < 6; n++) {
                for (int a = 0; a < 8; a++) {
                    FlakeArms x = with(kind, n, a);
                    int by = a - n;
                    int got = x.act(3, 2, 100);
                    if (by == 0) {
                        c.due("act(3, 2, 100) of KIND " + kind + ", " + n + " and " + a, got, -15);
                    } else {
                        int due = kind == 4 ? 102 / by ^ 1 : kind == 5 ? 100 / by + a + n : 100 / by;
                        c.due("act(3, 2, 100) of KIND " + kind + ", " + n + " and " + a, got, due);
                    }
                    // Only needled shares when it tells.
                    got = x.act(3, 3, 100);
                    c.dueTrue("act(3, 3, 100) of KIND " + kind + ", " + n + " and " + a, got == -15 == (by == 0 && kind == 2));
                }
            }
        }
    }

    private static void thatIsAll() {
        c.by(39, "that is all that act() answers then)");
        // Whatever the bodies further out would make of it, and whatever x is.
        for (int x : new int[] {0, 1, -1, MIN, MAX}) {
            for (int n = 0; n < 6; n++) {
                c.due("act(3, 2, " + x + ") of growth", with(0, n, n).act(3, 2, x), -15);
                c.due("act(3, 2, " + x + ") of sided", with(4, n, n).act(3, 2, x), -15);
                c.due("act(3, 2, " + x + ") of broken", with(5, n, n).act(3, 2, x), -15);
                c.due("act(3, 3, " + x + ") of needled", with(2, n, n).act(3, 3, x), -15);
            }
        }
        // The next one is as ever.
        FlakeArms x = with(5, 2, 2);
        c.due("act(3, 2, 9)", x.act(3, 2, 9), -15);
        act(x, 0, 9, 11, 10);
        c.due("act(3, 2, 9)", x.act(3, 2, 9), -15);
        act(x, 3, 9, (22 ^ 2) * 2, 60, 13, 11, 10);
        c.due("act(3, 2, 9)", x.act(3, 2, 9), -15);
        x.growth(0, 9);
        x.shelf(3, 0, 3);
        act(x, 2, 13, 2, 12);
    }

    /** An act() that answers -15 is the latest one, too: the bodies that began up to there ran in it. */
    private static void bodiesThatRanWhenParted() {
        c.by(40, "THE TRACE: numbers of the bodies that ran in the latest act(), as they began (left first); the first "
            + "30 are kept.");
        for (int n = 0; n < 6; n++) {
            act(with(0, n, n), 2, 8, -15, 12);
            act(with(1, n, n), 2, 8, -15, 12);
            act(with(2, n, n), 2, 8, -15, 12);
            act(with(2, n, n), 3, 8, -15, 31, 13, 11, 30, 10, 12);
            act(with(3, n, n), 2, 8, -15, 12);
            act(with(4, n, n), 2, 8, -15, 50, 12);
            act(with(5, n, n), 2, 8, -15, 61, 12);
        }
        // Neither those of the one before it, longer or shorter, nor of one before that.
        FlakeArms x = with(2, 3, 3);
        act(x, 1, 8, -22, 11, 30, 10);
        act(x, 2, 8, -15, 12);
        act(x, 3, 8, -15, 31, 13, 11, 30, 10, 12);
        act(x, 2, 8, -15, 12);
        act(x, 0, 8, -11, 30, 10);
        // A refused call of another kind isn't an act(): it leaves THE TRACE.
        act(x, 3, 8, -15, 31, 13, 11, 30, 10, 12);
        c.due("taken(3, 1)", x.taken(3, 1), -13);
        c.due("shelf(3, 3, 0)", x.shelf(3, 3, 0), -1);
        c.due("many(4)", x.many(4), 6);
        c.due("trace(5)", x.trace(5), 12);
        c.due("trace(6)", x.trace(6), -3);
    }

    /** n = 1, a = 4: by what each KIND makes of 10. */
    private static void bodiesOfEachKind() {
        c.by(40, "THE TRACE: numbers of the bodies that ran in the latest act(), as they began (left first)");
        FlakeArms x = with(0, 1, 4);
        act(x, 3, 10, 22 ^ 4, 13, 11, 10);
        x = with(1, 1, 4);
        act(x, 0, 10, 11, 10);
        act(x, 1, 10, 18, 20, 11, 10);
        act(x, 2, 10, 3, 12);
        act(x, 3, 10, 18 ^ 4, 13, 20, 11, 10);
        x = with(2, 1, 4);
        act(x, 0, 10, -11, 30, 10);
        act(x, 1, 10, -22, 11, 30, 10);
        act(x, 2, 10, 3, 12);
        act(x, 3, 10, (-22 ^ 4) + 0, 31, 13, 11, 30, 10, 12);
        act(with(2, 3, 4), 3, 10, (-26 ^ 4) + 3, 31, 13, 11, 30, 10, 12);
        act(with(2, 3, 2), 3, 10, (-26 ^ 2) - 3, 31, 13, 11, 30, 10, 12);
        x = with(3, 1, 4);
        act(x, 0, 10, 33, 40, 10);
        act(x, 1, 10, 66 - 4 + 6, 41, 20, 11, 40, 10, 40, 10);
        act(x, 2, 10, 3, 12);
        act(x, 3, 10, 68 ^ 4, 13, 41, 20, 11, 40, 10, 40, 10);
        x = with(4, 1, 4);
        act(x, 0, 10, 32, 51, 40, 10);
        act(x, 1, 10, 64 - 4 + 5, 41, 20, 11, 51, 40, 10, 51, 40, 10);
        act(x, 2, 10, 4 ^ 1, 50, 12);
        act(x, 3, 10, 65 ^ 4, 13, 41, 20, 11, 51, 40, 10, 51, 40, 10);
        x = with(5, 1, 4);
        act(x, 0, 10, 11, 10);
        act(x, 1, 10, 22, 11, 10);
        act(x, 2, 10, 3 + 5, 61, 12, 10);
        act(x, 3, 10, (22 ^ 4) * 2, 60, 13, 11, 10);
    }

    private static void noAct() {
        c.by(39, "0, and no TRACE then: no such SHELF, act, nothing, a row.");
        FlakeArms x = with(0, 1, 4);
        x.sheet(0, 2, 4);
        x.shelf(0, 1, 0);
        int[][] none = {{-1, 0}, {4, 0}, {MIN, 0}, {MAX, 0}, {3, -1}, {3, 4}, {3, MIN}, {3, MAX}, {2, 0}, {1, 3}, {0, 0},
            {0, 1}, {0, 2}, {0, 3}, {4, 4}};
        for (int[] call : none) {
            act(x, 1, 10, 22, 11, 10);
            c.due("act(" + call[0] + ", " + call[1] + ", 10)", x.act(call[0], call[1], 10), 0);
            c.due("many(4)", x.many(4), 0);
            c.due("trace(0)", x.trace(0), -3);
        }
    }

    private static void traceRefused() {
        c.by(40, "THE TRACE's i-th body. NONE.");
        FlakeArms x = with(4, 1, 4);
        for (int i : new int[] {0, 1, -1, 29, 30, MIN, MAX}) {
            c.due("trace(" + i + ") at first", x.trace(i), -3);
        }
        x.act(3, 3, 5);
        c.due("trace(0)", x.trace(0), 13);
        c.due("trace(9)", x.trace(9), 10);
        for (int i : new int[] {-1, 10, 11, 29, 30, 31, MIN, MAX}) {
            c.due("trace(" + i + ")", x.trace(i), -3);
        }
        // A shorter one leaves nothing of a longer one.
        x.act(3, 0, 5);
        c.due("trace(2)", x.trace(2), 10);
        c.due("trace(3)", x.trace(3), -3);
        c.due("trace(9)", x.trace(9), -3);
    }

    private static void firstThirty() {
        c.by(41, "4 bodies of THE TRACE (those kept, 30 at most).");
        // No ACT has more than ten, so that none of them is lost; those of earlier ones never count.
        FlakeArms x = with(4, 1, 4);
        for (int i = 0; i < 40; i++) {
            x.act(3, 3, i);
            c.due("many(4) behind act " + i, x.many(4), 10);
        }
        c.due("trace(9)", x.trace(9), 10);
    }

    private static void many() {
        c.by(41, "BAD: another what.");
        FlakeArms x = new FlakeArms();
        for (int what = 0; what < 5; what++) {
            c.due("many(" + what + ") at first", x.many(what), 0);
        }
        for (int what : new int[] {-1, 5, 6, MIN, MAX}) {
            c.due("many(" + what + ")", x.many(what), -1);
        }
        // The most of each.
        for (int i = 0; i < 6; i++) {
            x.growth(4, 1);
        }
        Checks.law(x, "use 0;use 0;use 0;use 0;use 0;use 0;use 0;use 0;");
        Ice.put(x, 0, Ice.all());
        x.prove(0);
        for (int i = 0; i < 25; i++) {
            x.feed(0, 8);
        }
        x.shelf(0, 0, 0);
        x.act(0, 3, 0);
        int[] most = {6, 8, 6, 200, 10};
        for (int what = 0; what < 5; what++) {
            c.due("many(" + what + ") at most", x.many(what), most[what]);
        }
    }
}
