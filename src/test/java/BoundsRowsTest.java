import java.util.Set;
import java.util.TreeSet;

/** Promises 29 to 33: each sentence that names a boundary case. */
public final class BoundsRowsTest {
    private static final int MIN = Integer.MIN_VALUE;
    private static final int MAX = Integer.MAX_VALUE;
    private static final Checks c = new Checks();

    public static void main(String[] args) {
        ringsWithSome();
        proveRefused();
        rowOutside();
        alterRow();
        alterRowOutside();
        firstThatIsnt();
        fewer();
        more();
        judgeRefused();
        cellsOfItems();
        leastLowest();
        otherBits();
        withoutAnItem();
        sinceItsMinute();
        copiesRefused();
        c.end();
    }

    private static void ringsWithSome() {
        c.by(29, "ROWS of a FLAKE: (RING, how many CELLS of it have ICE) of each RING with some.");
        FlakeArms x = new FlakeArms();
        c.due("many(2) at first", x.many(2), 0);
        Ice.put(x, 0, new TreeSet<>());
        c.due("prove(0) of none", x.prove(0), 0);
        c.due("row(0, 0)", x.row(0, 0), -9);
        Ice.put(x, 1, Ice.all());
        c.due("prove(1) of all", x.prove(1), 6);
        for (int ring = 0; ring <= 5; ring++) {
            c.due("row(" + ring + ", 0)", x.row(ring, 0), ring);
            c.due("row(" + ring + ", 1)", x.row(ring, 1), ring == 0 ? 1 : 6 * ring);
        }
        c.due("row(6, 0)", x.row(6, 0), -9);
        c.due("many(2)", x.many(2), 6);
        // Every choice of RINGS, each with one CELL or all.
        for (int rings = 0; rings < 64; rings++) {
            FlakeArms y = new FlakeArms();
            Set<NaiveFlakes.At> cells = new TreeSet<>();
            for (int ring = 0; ring <= 5; ring++) {
                if ((rings >> ring & 1) == 1 && ring % 2 == 0) {
                    cells.addAll(Ice.ring(ring));
                } else if ((rings >> ring & 1) == 1) {
                    cells.add(Ice.at(-1, 1 - ring));
                }
            }
            Ice.put(y, 3, cells);
            c.due("prove(3)", y.prove(3), Integer.bitCount(rings));
            int i = 0;
            for (int ring = 0; ring <= 5; ring++) {
                if ((rings >> ring & 1) == 1) {
                    c.due("row(" + i + ", 0)", y.row(i, 0), ring);
                    c.due("row(" + i + ", 1)", y.row(i, 1), ring == 0 || ring % 2 == 1 ? 1 : 6 * ring);
                    i++;
                }
            }
            c.due("row(" + i + ", 0)", y.row(i, 0), -9);
            c.due("judge(3)", y.judge(3), 0);
        }
        // A shorter one leaves nothing of a longer one.
        c.due("prove(2)", x.prove(2), 1);
        c.due("row(0, 0)", x.row(0, 0), 0);
        c.due("row(1, 0)", x.row(1, 0), -9);
        c.due("many(2)", x.many(2), 1);
    }

    private static void proveRefused() {
        c.by(29, "ROWS of a FLAKE: how many. BAD.");
        FlakeArms x = new FlakeArms();
        c.due("prove(3)", x.prove(3), 1);
        x.alterRow(0, 1, 77);
        for (int f : new int[] {-1, 4, MIN, MAX}) {
            c.due("prove(" + f + ")", x.prove(f), -1);
        }
        c.due("many(2)", x.many(2), 1);
        c.due("row(0, 1)", x.row(0, 1), 77);
        c.due("prove(0)", x.prove(0), 1);
        c.due("row(0, 1)", x.row(0, 1), 1);
    }

    private static void rowOutside() {
        c.by(30, "Of ROW i: what = 0 RING, 1 how many. -9: there is none such, another what.");
        FlakeArms x = new FlakeArms();
        c.due("row(0, 0) at first", x.row(0, 0), -9);
        c.due("row(0, 1) at first", x.row(0, 1), -9);
        x.freeze(0, 3, 0, true);
        x.prove(0);
        c.due("row(0, 0)", x.row(0, 0), 0);
        c.due("row(0, 1)", x.row(0, 1), 1);
        c.due("row(1, 0)", x.row(1, 0), 3);
        c.due("row(1, 1)", x.row(1, 1), 1);
        for (int i : new int[] {-1, 2, 3, 5, 6, 7, MIN, MAX}) {
            c.due("row(" + i + ", 0)", x.row(i, 0), -9);
            c.due("row(" + i + ", 1)", x.row(i, 1), -9);
        }
        for (int what : new int[] {-1, 2, 3, MIN, MAX}) {
            c.due("row(0, " + what + ")", x.row(0, what), -9);
            c.due("row(1, " + what + ")", x.row(1, what), -9);
        }
    }

    private static void alterRow() {
        c.by(31, "It becomes v: what it was.");
        FlakeArms x = new FlakeArms();
        x.freeze(0, 5, 0, true);
        x.prove(0);
        int[] before = {0, 1, 5, 1};
        for (int v : new int[] {MIN, MAX, -9, -1, 0, 6}) {
            for (int at = 0; at < 4; at++) {
                c.due("alterRow(" + at / 2 + ", " + at % 2 + ", " + v + ")", x.alterRow(at / 2, at % 2, v), before[at]);
                before[at] = v;
                for (int other = 0; other < 4; other++) {
                    c.due("row(" + other / 2 + ", " + other % 2 + ")", x.row(other / 2, other % 2), before[other]);
                }
            }
        }
        c.due("many(2)", x.many(2), 2);
        c.due("size(0, 0)", x.size(0, 0), 2);
    }

    private static void alterRowOutside() {
        c.by(31, "-9 likewise.");
        FlakeArms x = new FlakeArms();
        c.due("alterRow(0, 0, 5) at first", x.alterRow(0, 0, 5), -9);
        x.prove(0);
        for (int i : new int[] {-1, 1, 5, 6, MIN, MAX}) {
            c.due("alterRow(" + i + ", 0, 5)", x.alterRow(i, 0, 5), -9);
            c.due("alterRow(" + i + ", 1, 5)", x.alterRow(i, 1, 5), -9);
        }
        for (int what : new int[] {-1, 2, 3, MIN, MAX}) {
            c.due("alterRow(0, " + what + ", 5)", x.alterRow(0, what, 5), -9);
        }
        c.due("row(0, 0)", x.row(0, 0), 0);
        c.due("row(0, 1)", x.row(0, 1), 1);
        c.due("many(2)", x.many(2), 1);
        // What couldn't be altered isn't there when more ROWS come.
        x.freeze(1, 1, 0, true);
        x.prove(1);
        c.due("row(1, 0)", x.row(1, 0), 1);
        c.due("row(1, 1)", x.row(1, 1), 1);
    }

    private static void firstThatIsnt() {
        c.by(32, "0 all is right; else the first ROW that isn't, and 1 more; 222.");
        FlakeArms x = new FlakeArms();
        Set<NaiveFlakes.At> all = Ice.allBut(Ice.at(2, 0));
        Ice.put(x, 0, all);
        x.prove(0);
        c.due("judge(0)", x.judge(0), 0);
        for (int i = 5; i >= 0; i--) {
            for (int what = 0; what < 2; what++) {
                for (int by : new int[] {-1, 1}) {
                    int was = x.row(i, what);
                    x.alterRow(i, what, was + by);
                    c.due("judge(0) with ROW " + i + " altered", x.judge(0), i + 1);
                    x.alterRow(i, what, was);
                }
            }
            c.due("judge(0)", x.judge(0), 0);
        }
        for (int i = 5; i >= 0; i--) {
            x.alterRow(i, 1, MIN);
            c.due("judge(0) with all from ROW " + i + " on altered", x.judge(0), i + 1);
        }
        // The FLAKE may be another one by now.
        FlakeArms y = new FlakeArms();
        y.prove(0);
        c.due("judge(1) of one alike", y.judge(1), 0);
        y.freeze(1, 0, 0, false);
        y.freeze(1, 5, 0, true);
        c.due("judge(1) of another RING", y.judge(1), 1);
        y.alterRow(0, 0, 5);
        c.due("judge(1) of ROWS altered so", y.judge(1), 0);
    }

    private static void fewer() {
        c.by(32, "right is one that is as it must be; if all are, but there are fewer: 222.");
        FlakeArms x = new FlakeArms();
        c.due("judge(0) of no ROWS", x.judge(0), 222);
        x.freeze(1, 0, 0, false);
        c.due("judge(1) of none, no ROWS", x.judge(1), 0);
        x.prove(0);
        for (int ring = 1; ring <= 5; ring++) {
            x.freeze(0, ring, 0, true);
            c.due("judge(0) with fewer", x.judge(0), 222);
        }
        x.alterRow(0, 1, 2);
        c.due("judge(0) with fewer, one wrong", x.judge(0), 1);
        x.alterRow(0, 1, 1);
        c.due("judge(0) with fewer", x.judge(0), 222);
        x.prove(0);
        c.due("judge(0)", x.judge(0), 0);
        c.due("breaks(0, 0)", x.breaks(0, 0), 5);
        x.prove(1);
        c.due("judge(0) of no ROWS", x.judge(0), 222);
    }

    private static void more() {
        c.by(32, "THE READER takes ROWS as those of a FLAKE");
        FlakeArms x = new FlakeArms();
        Ice.put(x, 0, Ice.all());
        x.prove(0);
        c.due("judge(1) with more", x.judge(1), 2);
        x.freeze(1, 1, 0, true);
        c.due("judge(1) with another", x.judge(1), 2);
        Set<NaiveFlakes.At> inner = Ice.all();
        inner.removeAll(Ice.ring(5));
        Ice.put(x, 2, inner);
        c.due("judge(2) with one more", x.judge(2), 6);
        Ice.put(x, 3, new TreeSet<>());
        c.due("judge(3) of none", x.judge(3), 1);
        c.due("judge(0)", x.judge(0), 0);
        // A RING left out: the ROW in its place isn't the one that must be there.
        inner.removeAll(Ice.ring(3));
        Ice.put(x, 2, inner);
        c.due("judge(2) without RING 3", x.judge(2), 4);
        x.prove(2);
        c.due("judge(0) without RING 3", x.judge(0), 4);
    }

    private static void judgeRefused() {
        c.by(32, "THE READER takes ROWS as those of a FLAKE: 0 all is right");
        FlakeArms x = new FlakeArms();
        x.prove(0);
        for (int f : new int[] {-1, 4, MIN, MAX}) {
            c.due("judge(" + f + ")", x.judge(f), -1);
        }
        for (int f = 0; f < 4; f++) {
            c.due("judge(" + f + ")", x.judge(f), 0);
        }
        c.due("many(2)", x.many(2), 1);
    }

    private static void cellsOfItems() {
        c.by(33, "item i tells CELLS of the i-th r (from -5 on) as bits");
        FlakeArms x = new FlakeArms();
        for (int i = 0; i < 11; i++) {
            x.sheet(0, 2, 11);
            x.put(0, i, -1);
            c.due("copies(0, 0) by item " + i, x.copies(0, 0), 11 - Math.abs(i - 5));
            for (int q = -5; q <= 5; q++) {
                if (Ice.at(q, i - 5).isCell()) {
                    c.due("cell(0, " + q + ", " + (i - 5) + ")", x.cell(0, q, i - 5), 0);
                }
            }
            c.due("size(0, 0)", x.size(0, 0), 11 - Math.abs(i - 5));
        }
    }

    private static void leastLowest() {
        c.by(33, "(the least q the lowest; other bits count nothing)");
        for (int r = -5; r <= 5; r++) {
            int least = Math.max(-5, -5 - r);
            int most = Math.min(5, 5 - r);
            FlakeArms x = new FlakeArms();
            x.sheet(1, 2, 11);
            for (int bit = 0; bit < 32; bit++) {
                x.put(1, r + 5, 1 << bit);
                boolean isOne = least + bit <= most;
                c.due("copies(2, 1) by bit " + bit + " of r " + r, x.copies(2, 1), isOne ? 1 : 0);
                if (isOne) {
                    c.due("cell(2, " + (least + bit) + ", " + r + ")", x.cell(2, least + bit, r), 0);
                }
            }
        }
    }

    private static void otherBits() {
        c.by(33, "other bits count nothing");
        FlakeArms x = new FlakeArms();
        x.sheet(0, 2, 40);
        for (int i = 0; i < 40; i++) {
            x.put(0, i, -1);
        }
        c.due("copies(0, 0) of all bits", x.copies(0, 0), 91);
        for (int i = 0; i < 40; i++) {
            int wide = 11 - Math.abs(i - 5);
            x.put(0, i, i < 11 ? -1 << wide : -1);
        }
        c.due("copies(0, 0) of other bits alone", x.copies(0, 0), 0);
        c.due("size(0, 0)", x.size(0, 0), 0);
        x.put(0, 5, MIN | 1 << 10);
        c.due("copies(0, 0) of the last q", x.copies(0, 0), 1);
        c.due("cell(0, 5, 0)", x.cell(0, 5, 0), 0);
    }

    private static void withoutAnItem() {
        c.by(33, "without an item none: SIZE.");
        int[] due = {0, 6, 13, 21, 30, 40, 51, 61, 70, 78, 85, 91, 91};
        for (int n = 0; n <= 12; n++) {
            FlakeArms x = new FlakeArms();
            Ice.put(x, 0, Ice.all());
            x.sheet(0, 2, n);
            for (int i = 0; i < n; i++) {
                x.put(0, i, -1);
            }
            c.due("copies(0, 0) of " + n + " items", x.copies(0, 0), due[n]);
            c.due("size(0, 0)", x.size(0, 0), due[n]);
            if (n < 11) {
                int last = n - 5;
                c.due("cell of the first r without an item", x.cell(0, Math.max(-5, -5 - last), last), -9);
            }
        }
        // What a longer row held before is gone.
        FlakeArms x = new FlakeArms();
        Ice.put(x, 0, Ice.all());
        x.sheet(Ice.SHEET, 2, 10);
        c.due("copies(0, 3) of a new row", x.copies(0, Ice.SHEET), 0);
    }

    private static void sinceItsMinute() {
        c.by(33, "just these have ICE, since the FLAKE's MINUTE");
        FlakeArms x = new FlakeArms();
        x.growth(0, 0);
        x.freeze(0, 1, 0, true);
        Ice.passTo(x, 0, 60, 0);
        x.sheet(0, 2, 6);
        x.put(0, 5, 1 << 5 | 1 << 4);
        c.due("copies(0, 0)", x.copies(0, 0), 2);
        c.due("cell(0, 0, 0)", x.cell(0, 0, 0), 60);
        c.due("cell(0, -1, 0)", x.cell(0, -1, 0), 60);
        c.due("cell(0, 1, 0)", x.cell(0, 1, 0), -9);
        c.due("size(0, 4)", x.size(0, 4), 60);
        c.due("copies(1, 0) at MINUTE 0", x.copies(1, 0), 2);
        c.due("cell(1, -1, 0)", x.cell(1, -1, 0), 0);
        c.due("layer(0, 60)", x.layer(0, 60), 2);
    }

    private static void copiesRefused() {
        c.by(33, "Numbers of a SHEET taken for ints");
        FlakeArms x = new FlakeArms();
        for (int sheet = 0; sheet < 4; sheet++) {
            c.due("copies(0, " + sheet + ") of a missing one", x.copies(0, sheet), -11);
            for (int sort = 0; sort < 4; sort++) {
                for (int n : new int[] {0, 11}) {
                    x.sheet(sheet, sort, n);
                    x.begin(0);
                    c.due("copies(0, " + sheet + ") of sort " + sort, x.copies(0, sheet), sort == 2 ? 0 : -13);
                    c.due("size(0, 0)", x.size(0, 0), sort == 2 ? 0 : 1);
                }
            }
            x.sheet(sheet, -1, 0);
            x.begin(0);
            c.due("copies(0, " + sheet + ") of one missing again", x.copies(0, sheet), -11);
            c.due("size(0, 0)", x.size(0, 0), 1);
        }
        x.sheet(0, 2, 11);
        x.sheet(1, 3, 11);
        for (int bad : new int[] {-1, 4, MIN, MAX}) {
            c.due("copies(" + bad + ", 0)", x.copies(bad, 0), -1);
            c.due("copies(0, " + bad + ")", x.copies(0, bad), -1);
            c.due("copies(" + bad + ", 1) of longs", x.copies(bad, 1), -1);
            c.due("copies(" + bad + ", 2) of a missing one", x.copies(bad, 2), -1);
        }
        c.due("size(0, 0)", x.size(0, 0), 1);
    }
}
