import java.util.Set;
import java.util.TreeSet;

/** CELLS, FLAKES and promises 1 and 4 to 14: each sentence that names a boundary case. */
public final class BoundsFlakesTest {
    private static final int MIN = Integer.MIN_VALUE;
    private static final int MAX = Integer.MAX_VALUE;
    private static final Checks c = new Checks();

    public static void main(String[] args) {
        cellsAre91();
        cellsWrapNowhere();
        besideAsFarAsTheyAreCells();
        towards();
        ringWithoutSigns();
        turned();
        mirrored();
        flakes0To3();
        sinceAMinute();
        minute60AtMost();
        atTheBeginning();
        newObject();
        armWithoutGap();
        armWithoutTheMiddle();
        armOfAnEmptyMiddle();
        sizes();
        spanWithoutAny();
        edges();
        holesAndRing5();
        holesOfWindingWays();
        unlikeInJustOne();
        unlikeTurns();
        begin();
        cellWithoutIce();
        freeze();
        sizeOf0To4();
        armOf0To5();
        layerOf0To60();
        apart();
        apartFromItself();
        copy();
        copyOfItself();
        meetNew();
        meetRefused();
        breaks();
        c.end();
    }

    private static boolean isCell(long q, long r) {
        return q >= -5 && q <= 5 && r >= -5 && r <= 5 && q + r >= -5 && q + r <= 5;
    }

    private static void cellsAre91() {
        c.by(5, "A CELL is told by q and r (-5 to 5 each, and q + r, too: 91 CELLS).");
        FlakeArms x = new FlakeArms();
        int cells = 0;
        for (int q = -7; q <= 7; q++) {
            for (int r = -7; r <= 7; r++) {
                int want = q == 0 && r == 0 ? 0 : isCell(q, r) ? -9 : -1;
                int got = x.cell(0, q, r);
                cells += got == -1 ? 0 : 1;
                c.due("cell(0, " + q + ", " + r + ")", got, want);
            }
        }
        c.due("how many CELLS there are", cells, 91);
        x = new FlakeArms();
        cells = 1;
        for (int q = -6; q <= 6; q++) {
            for (int r = -6; r <= 6; r++) {
                int want = q == 0 && r == 0 ? 0 : isCell(q, r) ? 1 : -1;
                cells += want == 1 ? 1 : 0;
                c.due("freeze(0, " + q + ", " + r + ", true)", x.freeze(0, q, r, true), want);
                c.due("size(0, 0)", x.size(0, 0), cells);
            }
        }
        c.due("size(0, 0) of all", x.size(0, 0), 91);
        // The last one on each of the six sides, and the first one beyond it.
        int[][] last = {{5, -2}, {2, 3}, {-3, 5}, {-5, 2}, {-2, -3}, {3, -5}};
        int[][] beyond = {{6, -2}, {3, 3}, {-3, 6}, {-6, 2}, {-3, -3}, {3, -6}};
        for (int k = 0; k < 6; k++) {
            c.due("cell(0, " + last[k][0] + ", " + last[k][1] + ")", x.cell(0, last[k][0], last[k][1]), 0);
            c.due("cell(0, " + beyond[k][0] + ", " + beyond[k][1] + ")", x.cell(0, beyond[k][0], beyond[k][1]), -1);
        }
    }

    private static void cellsWrapNowhere() {
        c.by(5, "BAD: no such FLAKE, CELL.");
        FlakeArms x = new FlakeArms();
        // The sum of some of these wraps to one from -5 to 5.
        int[][] far = {{MAX, MAX}, {MIN, MIN}, {MAX, MIN}, {MIN, MAX}, {MAX, -MAX}, {-MAX, MAX}, {MIN, 0}, {0, MIN},
            {MAX, 0}, {0, MAX}, {1 << 16, 0}, {0, 1 << 16}, {256, 0}, {0, 256}, {1 << 30, 1 << 30}, {-256, 256}};
        for (int[] at : far) {
            c.due("cell(0, " + at[0] + ", " + at[1] + ")", x.cell(0, at[0], at[1]), -1);
            c.due("freeze(0, " + at[0] + ", " + at[1] + ", true)", x.freeze(0, at[0], at[1], true), -1);
            c.due("freeze(0, " + at[0] + ", " + at[1] + ", false)", x.freeze(0, at[0], at[1], false), -1);
        }
        // In rows of any width none beyond an end is one of the row beside it.
        for (int wide = 7; wide <= 16; wide++) {
            for (int rows = 1; rows <= 3; rows++) {
                c.due("cell(0, " + wide * rows + ", " + -rows + ")", x.cell(0, wide * rows, -rows), -1);
                c.due("cell(0, " + -wide * rows + ", " + rows + ")", x.cell(0, -wide * rows, rows), -1);
            }
        }
        c.due("size(0, 0)", x.size(0, 0), 1);
    }

    private static void besideAsFarAsTheyAreCells() {
        c.by(7, "It lies BESIDE six others (as far as they are CELLS)");
        for (NaiveFlakes.At cell : NaiveFlakes.CELLS) {
            FlakeArms x = new FlakeArms();
            x.growth(0, 1);
            x.freeze(0, 0, 0, false);
            x.freeze(0, cell.q(), cell.r(), true);
            Set<NaiveFlakes.At> beside = Ice.beside(cell);
            int sixth = cell.ring() < 5 ? 6 : cell.q() * cell.r() * (cell.q() + cell.r()) == 0 ? 3 : 4;
            c.due("how many lie beside " + cell, x.size(0, 2), sixth);
            c.due("grow(0, 0) from " + cell, x.grow(0, 0), sixth);
            beside.add(cell);
            c.dueTrue("these beside " + cell + " alone", Ice.of(x, 0).equals(beside));
        }
    }

    private static void towards() {
        c.by(8, "towards 0 (q + 1, r), 1 (q, r + 1), 2 (q - 1, r + 1), 3 (q - 1, r), 4 (q, r - 1), 5 (q + 1, r - 1)");
        int[][] towards = {{1, 0}, {0, 1}, {-1, 1}, {-1, 0}, {0, -1}, {1, -1}};
        for (int k = 0; k < 6; k++) {
            FlakeArms x = new FlakeArms();
            for (int far = 1; far <= 5; far++) {
                x.freeze(0, towards[k][0] * far, towards[k][1] * far, true);
                for (int arm = 0; arm < 6; arm++) {
                    c.due("arm(0, " + arm + ") with " + far + " towards " + k, x.arm(0, arm), arm == k ? far : 0);
                }
            }
        }
    }

    private static void ringWithoutSigns() {
        c.by(7, "RING of a CELL: the greatest of q, r, q + r without signs.");
        int[] cells = new int[6];
        for (NaiveFlakes.At cell : NaiveFlakes.CELLS) {
            FlakeArms x = new FlakeArms();
            x.freeze(0, 0, 0, false);
            x.freeze(0, cell.q(), cell.r(), true);
            int ring = Math.max(Math.max(Math.abs(cell.q()), Math.abs(cell.r())), Math.abs(cell.q() + cell.r()));
            c.due("size(0, 1) of " + cell, x.size(0, 1), ring);
            c.due("prove(0) of " + cell, x.prove(0), 1);
            c.due("row(0, 0) of " + cell, x.row(0, 0), ring);
            cells[ring]++;
        }
        for (int ring = 0; ring < 6; ring++) {
            c.due("CELLS of RING " + ring, cells[ring], Math.max(1, 6 * ring));
        }
    }

    private static void turned() {
        c.by(13, "TURNED by one (q, r) comes to (0 - r, q + r)");
        for (NaiveFlakes.At cell : NaiveFlakes.CELLS) {
            FlakeArms x = new FlakeArms();
            x.freeze(0, 0, 0, false);
            x.freeze(1, 0, 0, false);
            x.freeze(1, cell.q(), cell.r(), true);
            int q = cell.q();
            int r = cell.r();
            for (int turn = 0; turn < 6; turn++) {
                c.due("meet(0, 1, " + turn + ") of " + cell, x.meet(0, 1, turn), cell.ring() == 0 && turn > 0 ? 0 : 1);
                c.due("cell(0, " + q + ", " + r + ")", x.cell(0, q, r), 0);
                c.due("unlike(1, " + turn + ", false) of " + cell, x.unlike(1, turn, false),
                    q == cell.q() && r == cell.r() ? 0 : 2);
                int sum = q + r;
                q = -r;
                r = sum;
            }
        }
    }

    private static void mirrored() {
        c.by(10, "MIRRORED to (r, q)");
        for (NaiveFlakes.At cell : NaiveFlakes.CELLS) {
            FlakeArms x = new FlakeArms();
            x.freeze(0, 0, 0, false);
            x.freeze(0, cell.q(), cell.r(), true);
            c.due("unlike(0, 0, true) of " + cell, x.unlike(0, 0, true), cell.q() == cell.r() ? 0 : 2);
        }
    }

    private static void flakes0To3() {
        c.by(1, "FLAKES 0 to 3: some CELLS have ICE");
        FlakeArms x = new FlakeArms();
        for (int f = 0; f < 4; f++) {
            c.due("freeze(" + f + ", 1, " + f + ", true)", x.freeze(f, 1, f, true), 1);
        }
        for (int f = 0; f < 4; f++) {
            for (int r = 0; r < 4; r++) {
                c.due("cell(" + f + ", 1, " + r + ")", x.cell(f, 1, r), r == f ? 0 : -9);
            }
        }
        for (int f : new int[] {-1, 4, MIN, MAX, 256, 1 << 16}) {
            c.due("size(" + f + ", 0)", x.size(f, 0), -1);
            c.due("begin(" + f + ")", x.begin(f), -1);
            c.due("cell(" + f + ", 0, 0)", x.cell(f, 0, 0), -1);
            c.due("freeze(" + f + ", 0, 0, true)", x.freeze(f, 0, 0, true), -1);
        }
    }

    private static void sinceAMinute() {
        c.by(5, "since a MINUTE (1 and on; 0: since the beginning)");
        FlakeArms x = new FlakeArms();
        x.growth(0, 0);
        x.growth(0, 1);
        c.due("cell(0, 0, 0)", x.cell(0, 0, 0), 0);
        x.freeze(0, 5, 0, true);
        c.due("cell(0, 5, 0)", x.cell(0, 5, 0), 0);
        x.grow(0, 1);
        c.due("cell(0, 1, 0)", x.cell(0, 1, 0), 1);
        c.due("cell(0, 0, 0)", x.cell(0, 0, 0), 0);
        x.grow(0, 1);
        c.due("cell(0, 2, 0)", x.cell(0, 2, 0), 2);
        Ice.passTo(x, 0, 59, 0);
        x.freeze(0, -5, 0, true);
        c.due("cell(0, -5, 0)", x.cell(0, -5, 0), 59);
        x.grow(0, 1);
        x.freeze(0, -5, 5, true);
        c.due("cell(0, -5, 5)", x.cell(0, -5, 5), 60);
        c.due("cell(0, -5, 1) beside (-5, 0)", x.cell(0, -5, 1), 60);
    }

    private static void minute60AtMost() {
        c.by(18, "a FLAKE's MINUTE is how many it grew (0 at first, 60 at most)");
        FlakeArms x = new FlakeArms();
        // A MINUTE counts though nothing FREEZES, or all is missed.
        x.growth(0, 0);
        x.growth(0, 1);
        x.miss(4);
        for (int minute = 0; minute < 60; minute++) {
            c.due("size(0, 4)", x.size(0, 4), minute);
            c.due("grow(0, " + minute % 2 + ")", x.grow(0, minute % 2), 0);
        }
        c.due("size(0, 4)", x.size(0, 4), 60);
        c.due("grow(0, 0)", x.grow(0, 0), -4);
        c.due("size(0, 4)", x.size(0, 4), 60);
        c.due("size(1, 4) of another one", x.size(1, 4), 0);
        x.miss(0);
        c.due("grow(0, 1)", x.grow(0, 1), -4);
        c.due("wouldBe(0, 1)", x.wouldBe(0, 1), 6);
        c.due("size(0, 0)", x.size(0, 0), 1);
        c.due("freeze(0, 1, 0, true)", x.freeze(0, 1, 0, true), 1);
        c.due("cell(0, 1, 0)", x.cell(0, 1, 0), 60);
        c.due("size(0, 4)", x.size(0, 4), 60);
        c.due("begin(0)", x.begin(0), 2);
        c.due("size(0, 4)", x.size(0, 4), 0);
        c.due("grow(0, 1)", x.grow(0, 1), 6);
    }

    private static void atTheBeginning() {
        c.by(1, "at the beginning (0, 0) alone has ICE");
        for (int f = 0; f < 4; f++) {
            FlakeArms x = new FlakeArms();
            for (NaiveFlakes.At cell : NaiveFlakes.CELLS) {
                c.due("cell(" + f + ") of " + cell, x.cell(f, cell.q(), cell.r()), cell.ring() == 0 ? 0 : -9);
            }
            Ice.put(x, f, Ice.allBut(Ice.at(0, 0)));
            c.due("begin(" + f + ")", x.begin(f), 90);
            for (NaiveFlakes.At cell : NaiveFlakes.CELLS) {
                c.due("cell(" + f + ") of " + cell, x.cell(f, cell.q(), cell.r()), cell.ring() == 0 ? 0 : -9);
            }
        }
    }

    private static void newObject() {
        c.by(1, "FLAKES at the beginning, no GROWTHS, no LAW; nothing is kept.");
        FlakeArms x = new FlakeArms();
        for (int f = 0; f < 4; f++) {
            int[] sizes = {1, 0, 6, 0, 0};
            for (int what = 0; what < 5; what++) {
                c.due("size(" + f + ", " + what + ")", x.size(f, what), sizes[what]);
            }
            c.due("picks(" + f + ", 9, 9)", x.picks(f, 9, 9), 0);
            c.due("picked(" + f + ")", x.picked(f), 0);
            c.due("wouldBe(" + f + ", 0)", x.wouldBe(f, 0), -1);
            c.due("grow(" + f + ", 0)", x.grow(f, 0), -1);
            c.due("fall(" + f + ", 24)", x.fall(f, 24), 0);
        }
        for (int g = 0; g < 6; g++) {
            c.due("growthOf(" + g + ", 0)", x.growthOf(g, 0), -1);
        }
        c.due("many(0)", x.many(0), 0);
        c.due("many(1)", x.many(1), 0);
        c.due("again()", x.again(), -3);
        c.due("many(2)", x.many(2), 0);
        c.due("many(3)", x.many(3), 0);
        c.due("many(4)", x.many(4), 0);
        c.due("growth(0, 1)", x.growth(0, 1), 0);
        // What one object does is nothing to another.
        c.due("many(0) of another object", new FlakeArms().many(0), 0);
    }

    private static void armWithoutGap() {
        c.by(8, "have ICE without a gap");
        for (int k = 0; k < 6; k++) {
            NaiveFlakes.At step = Ice.at(0, 0).towards(k);
            for (int gap = 1; gap <= 6; gap++) {
                FlakeArms x = new FlakeArms();
                for (int far = 1; far <= 5; far++) {
                    x.freeze(0, step.q() * far, step.r() * far, far != gap);
                }
                c.due("arm(0, " + k + ") with a gap at " + gap, x.arm(0, k), gap - 1);
            }
        }
    }

    private static void armWithoutTheMiddle() {
        c.by(8, "how many CELLS towards k from (0, 0) on, without that one");
        FlakeArms x = new FlakeArms();
        for (int k = 0; k < 6; k++) {
            c.due("arm(0, " + k + ")", x.arm(0, k), 0);
        }
        Ice.put(x, 1, Ice.all());
        for (int k = 0; k < 6; k++) {
            c.due("arm(1, " + k + ") of all", x.arm(1, k), 5);
        }
        c.due("breaks(1, 0)", x.breaks(1, 0), 5);
        c.due("cell(1, 0, 0)", x.cell(1, 0, 0), 0);
    }

    /** (0, 0) is left out of the ARM: whether it has ICE counts nothing. */
    private static void armOfAnEmptyMiddle() {
        c.by(8, "how many CELLS towards k from (0, 0) on, without that one, have ICE without a gap.");
        for (int k = 0; k < 6; k++) {
            NaiveFlakes.At step = Ice.at(0, 0).towards(k);
            for (int far = 0; far <= 5; far++) {
                FlakeArms x = new FlakeArms();
                for (int i = 1; i <= far; i++) {
                    x.freeze(0, step.q() * i, step.r() * i, true);
                }
                x.freeze(0, 0, 0, false);
                c.due("arm(0, " + k + ") with " + far + " and none in the middle", x.arm(0, k), far);
                c.due("arm(0, " + (k + 3) % 6 + ") across from it", x.arm(0, (k + 3) % 6), 0);
                c.due("breaks(0, " + k + ")", x.breaks(0, k), far);
                c.due("size(0, 0)", x.size(0, 0), 0);
            }
        }
    }

    private static void sizes() {
        c.by(7, "SIZE: how many CELLS have ICE.");
        FlakeArms x = new FlakeArms();
        c.due("size(0, 0)", x.size(0, 0), 1);
        x.freeze(0, 0, 0, false);
        c.due("size(0, 0) of none", x.size(0, 0), 0);
        Ice.put(x, 0, Ice.all());
        c.due("size(0, 0) of all", x.size(0, 0), 91);
        x.freeze(0, 0, -5, false);
        c.due("size(0, 0) of all but the first", x.size(0, 0), 90);
        x.freeze(0, 0, 5, false);
        c.due("size(0, 0) of all but the first and the last", x.size(0, 0), 89);
    }

    private static void spanWithoutAny() {
        c.by(7, "SPAN: the greatest RING with ICE (0 without any).");
        FlakeArms x = new FlakeArms();
        c.due("size(0, 1) at the beginning", x.size(0, 1), 0);
        x.freeze(0, 0, 0, false);
        c.due("size(0, 1) of none", x.size(0, 1), 0);
        for (int ring = 0; ring <= 5; ring++) {
            x.freeze(0, -ring, 0, true);
            c.due("size(0, 1) up to RING " + ring, x.size(0, 1), ring);
        }
        for (int ring = 0; ring < 5; ring++) {
            x.freeze(0, -ring, 0, false);
            c.due("size(0, 1) of RING 5 and some", x.size(0, 1), 5);
        }
        x.freeze(0, -5, 0, false);
        c.due("size(0, 1) of none again", x.size(0, 1), 0);
    }

    private static void edges() {
        c.by(7, "EDGE: how many pairs of CELLS beside one another of which just one has ICE.");
        FlakeArms x = new FlakeArms();
        Ice.put(x, 0, Ice.all());
        c.due("size(0, 2) of all", x.size(0, 2), 0);
        Ice.put(x, 1, new TreeSet<>());
        c.due("size(1, 2) of none", x.size(1, 2), 0);
        int[][] cells = {{5, 0, 3}, {0, -5, 3}, {4, 1, 4}, {-5, 1, 4}, {4, 0, 6}, {0, 0, 6}};
        for (int[] at : cells) {
            x.freeze(0, at[0], at[1], false);
            c.due("size(0, 2) of all but " + at[0] + ", " + at[1], x.size(0, 2), at[2]);
            x.freeze(0, at[0], at[1], true);
            x.freeze(1, at[0], at[1], true);
            c.due("size(1, 2) of " + at[0] + ", " + at[1], x.size(1, 2), at[2]);
            x.freeze(1, at[0], at[1], false);
        }
        Ice.put(x, 2, Ice.ring(5));
        // Within RING 5 each of the 24 CELLS of RING 4 lies beside two or, its corners, three of it.
        c.due("size(2, 2) of RING 5", x.size(2, 2), 18 * 2 + 6 * 3);
    }

    private static void holesAndRing5() {
        c.by(7, "HOLES: CELLS without ICE from which no way of such CELLS, beside one another, leads to one of RING 5 "
            + "without ICE.");
        FlakeArms x = new FlakeArms();
        c.due("size(0, 3)", x.size(0, 3), 0);
        Ice.put(x, 0, new TreeSet<>());
        c.due("size(0, 3) of none", x.size(0, 3), 0);
        Ice.put(x, 0, Ice.all());
        c.due("size(0, 3) of all", x.size(0, 3), 0);
        for (NaiveFlakes.At cell : NaiveFlakes.CELLS) {
            x.freeze(0, cell.q(), cell.r(), false);
            c.due("size(0, 3) of all but " + cell, x.size(0, 3), cell.ring() == 5 ? 0 : 1);
            x.freeze(0, cell.q(), cell.r(), true);
        }
        x = new FlakeArms();
        Ice.put(x, 0, Ice.ring(5));
        c.due("size(0, 3) in RING 5", x.size(0, 3), 61);
        x.freeze(0, 0, 0, true);
        c.due("size(0, 3) in RING 5 with the middle", x.size(0, 3), 60);
        for (NaiveFlakes.At cell : Ice.ring(5)) {
            x.freeze(0, cell.q(), cell.r(), false);
            c.due("size(0, 3) with " + cell + " open", x.size(0, 3), 0);
            x.freeze(0, cell.q(), cell.r(), true);
        }
        Ice.put(x, 0, Ice.ring(4));
        c.due("size(0, 3) in RING 4", x.size(0, 3), 37);
        // (4, -2) lies beside (5, -2) and (5, -3), two of RING 5, but not beside (5, -1).
        Ice.put(x, 0, Ice.allBut(Ice.at(4, -2), Ice.at(5, -1)));
        c.due("size(0, 3) not beside", x.size(0, 3), 1);
        Ice.put(x, 0, Ice.allBut(Ice.at(4, -2), Ice.at(5, -2)));
        c.due("size(0, 3) beside", x.size(0, 3), 0);
        // Three in two places, one of them a pair.
        Ice.put(x, 0, Ice.allBut(Ice.at(1, 0), Ice.at(2, 0), Ice.at(-2, 0), Ice.at(-5, 0)));
        c.due("size(0, 3) of two places", x.size(0, 3), 3);
    }

    /** A way of CELLS without ICE that goes around again and again, from the middle to RING 5. */
    private static void holesOfWindingWays() {
        c.by(7, "no way of such CELLS, beside one another, leads to one of RING 5");
        for (int turn = 0; turn < 6; turn++) {
            for (int mirrored = 0; mirrored < 2; mirrored++) {
                Set<NaiveFlakes.At> bare = new TreeSet<>();
                for (int[] at : new int[][] {{0, 0}, {1, 0}, {2, 0}, {1, 1}, {0, 2}, {-1, 2}, {-2, 2}, {-2, 1}, {-2, 0},
                    {-1, -1}, {0, -2}, {1, -3}, {2, -4}, {3, -4}, {4, -4}, {4, -3}, {4, -2}, {4, -1}, {4, 0}, {3, 1},
                    {2, 2}, {1, 3}, {0, 4}, {-1, 4}, {-2, 4}, {-3, 4}, {-4, 4}, {-4, 3}, {-4, 2}, {-4, 1}, {-4, 0}}) {
                    NaiveFlakes.At cell = mirrored == 0 ? Ice.at(at[0], at[1]) : Ice.at(at[1], at[0]);
                    for (int i = 0; i < turn; i++) {
                        cell = cell.turned();
                    }
                    bare.add(cell);
                }
                NaiveFlakes.At mouth = mirrored == 0 ? Ice.at(-5, 0) : Ice.at(0, -5);
                for (int i = 0; i < turn; i++) {
                    mouth = mouth.turned();
                }
                FlakeArms x = new FlakeArms();
                Ice.put(x, 0, Ice.allBut(bare.toArray(new NaiveFlakes.At[0])));
                c.due("size(0, 3) of a way that ends", x.size(0, 3), bare.size());
                x.freeze(0, mouth.q(), mouth.r(), false);
                c.due("size(0, 3) of a way that leads out", x.size(0, 3), 0);
            }
        }
    }

    private static void unlikeInJustOne() {
        c.by(10, "how many CELLS have ICE in just one of the FLAKE and what it comes to so.");
        FlakeArms x = new FlakeArms();
        Ice.put(x, 1, new TreeSet<>());
        Ice.put(x, 2, Ice.all());
        // Half of RING 5: turned by three all of it is unlike.
        Set<NaiveFlakes.At> half = Ice.ring(5);
        half.removeIf(cell -> cell.r() < 0 || cell.r() == 0 && cell.q() < 0);
        Ice.put(x, 3, half);
        c.due("size(3, 0)", x.size(3, 0), 15);
        for (int turn = 0; turn < 6; turn++) {
            for (int m = 0; m < 2; m++) {
                c.due("unlike(0, " + turn + ") at the beginning", x.unlike(0, turn, m == 1), 0);
                c.due("unlike(1, " + turn + ") of none", x.unlike(1, turn, m == 1), 0);
                c.due("unlike(2, " + turn + ") of all", x.unlike(2, turn, m == 1), 0);
            }
            int[] due = {0, 10, 20, 30, 20, 10};
            c.due("unlike(3, " + turn + ", false) of a half", x.unlike(3, turn, false), due[turn]);
        }
    }

    private static void unlikeTurns() {
        c.by(10, "UNLIKE by a turn (0 to 5 by one), MIRRORED ahead of it or not");
        FlakeArms x = new FlakeArms();
        x.freeze(0, 3, -1, true);
        for (int turn : new int[] {-1, 6, 7, -6, MIN, MAX}) {
            c.due("unlike(0, " + turn + ", false)", x.unlike(0, turn, false), -1);
            c.due("unlike(0, " + turn + ", true)", x.unlike(0, turn, true), -1);
        }
        for (int turn = 0; turn < 6; turn++) {
            c.due("unlike(0, " + turn + ", false)", x.unlike(0, turn, false), turn == 0 ? 0 : 2);
            // MIRRORED it is (-1, 3), which no turn brings to (3, -1).
            c.due("unlike(0, " + turn + ", true)", x.unlike(0, turn, true), 2);
        }
        // (3, -1) MIRRORED is (-1, 3), by five turns then (2, 1), and (2, 1) comes to (3, -1) so;
        // MIRRORED behind the turns it is by one that they come to one another.
        x.freeze(0, 2, 1, true);
        c.due("unlike(0, 5, true)", x.unlike(0, 5, true), 0);
        c.due("unlike(0, 1, true)", x.unlike(0, 1, true), 4);
        c.due("unlike(0, 5, false)", x.unlike(0, 5, false), 4);
    }

    private static void begin() {
        c.by(4, "A FLAKE is at the beginning: its SIZE ahead of that. BAD.");
        FlakeArms x = new FlakeArms();
        x.growth(0, 0);
        c.due("begin(0)", x.begin(0), 1);
        x.freeze(0, 0, 0, false);
        x.grow(0, 0);
        c.due("begin(0) of none", x.begin(0), 0);
        c.due("size(0, 4)", x.size(0, 4), 0);
        c.due("cell(0, 0, 0)", x.cell(0, 0, 0), 0);
        Ice.put(x, 3, Ice.all());
        c.due("begin(3) of all", x.begin(3), 91);
        c.due("size(3, 0)", x.size(3, 0), 1);
        // (0, 0) has ICE since the beginning, though it had it since later.
        x.grow(2, 0);
        x.freeze(2, 0, 0, false);
        x.freeze(2, 0, 0, true);
        c.due("cell(2, 0, 0)", x.cell(2, 0, 0), 1);
        c.due("begin(2)", x.begin(2), 1);
        c.due("cell(2, 0, 0)", x.cell(2, 0, 0), 0);
        for (int f : new int[] {-1, 4, MIN, MAX}) {
            c.due("begin(" + f + ")", x.begin(f), -1);
        }
    }

    private static void cellWithoutIce() {
        c.by(5, "Since which MINUTE a CELL has ICE (-9: it has none).");
        FlakeArms x = new FlakeArms();
        c.due("cell(3, 0, 0)", x.cell(3, 0, 0), 0);
        c.due("cell(3, 0, 1)", x.cell(3, 0, 1), -9);
        x.freeze(3, 0, 0, false);
        c.due("cell(3, 0, 0)", x.cell(3, 0, 0), -9);
        c.due("cell(4, 0, 0)", x.cell(4, 0, 0), -1);
        c.due("cell(3, 0, 6)", x.cell(3, 0, 6), -1);
    }

    private static void freeze() {
        c.by(6, "A CELL has ICE (since the FLAKE's MINUTE, if that is new), or none: 1 if that is new, else 0. BAD.");
        FlakeArms x = new FlakeArms();
        x.growth(0, 0);
        for (int minute = 0; minute <= 60; minute += 30) {
            Ice.passTo(x, 0, minute, 0);
            int q = minute / 30 + 1;
            c.due("freeze(0, " + q + ", 0, false)", x.freeze(0, q, 0, false), 0);
            c.due("cell(0, " + q + ", 0)", x.cell(0, q, 0), -9);
            c.due("freeze(0, " + q + ", 0, true)", x.freeze(0, q, 0, true), 1);
            c.due("freeze(0, " + q + ", 0, true)", x.freeze(0, q, 0, true), 0);
            c.due("cell(0, " + q + ", 0)", x.cell(0, q, 0), minute);
            // What had ICE before keeps its MINUTE.
            c.due("freeze(0, 0, 0, true)", x.freeze(0, 0, 0, true), 0);
            c.due("cell(0, 0, 0)", x.cell(0, 0, 0), 0);
        }
        c.due("freeze(0, 1, 0, false)", x.freeze(0, 1, 0, false), 1);
        c.due("freeze(0, 1, 0, false)", x.freeze(0, 1, 0, false), 0);
        c.due("freeze(0, 1, 0, true)", x.freeze(0, 1, 0, true), 1);
        c.due("cell(0, 1, 0)", x.cell(0, 1, 0), 60);
        c.due("freeze(-1, 0, 0, false)", x.freeze(-1, 0, 0, false), -1);
        c.due("freeze(4, 0, 0, false)", x.freeze(4, 0, 0, false), -1);
        c.due("freeze(0, -6, 0, false)", x.freeze(0, -6, 0, false), -1);
        c.due("size(0, 0)", x.size(0, 0), 4);
    }

    private static void sizeOf0To4() {
        c.by(7, "Of a FLAKE: what = 0 SIZE, 1 SPAN, 2 EDGE, 3 HOLES, 4 MINUTE. BAD.");
        FlakeArms x = new FlakeArms();
        x.growth(0, 0);
        Ice.put(x, 0, Ice.ring(4));
        Ice.passTo(x, 0, 17, 0);
        int[] due = {24, 4, 18 * 2 + 6 * 3 + 18 * 2 + 6, 37, 17};
        for (int what = 0; what < 5; what++) {
            c.due("size(0, " + what + ")", x.size(0, what), due[what]);
        }
        for (int what : new int[] {-1, 5, MIN, MAX}) {
            c.due("size(0, " + what + ")", x.size(0, what), -1);
        }
        for (int f : new int[] {-1, 4, MIN, MAX}) {
            for (int what = 0; what < 5; what++) {
                c.due("size(" + f + ", " + what + ")", x.size(f, what), -1);
            }
        }
    }

    private static void armOf0To5() {
        c.by(8, "ARM k (0 to 5)");
        FlakeArms x = new FlakeArms();
        Ice.put(x, 0, Ice.all());
        for (int k : new int[] {-1, 6, 7, -6, MIN, MAX}) {
            c.due("arm(0, " + k + ")", x.arm(0, k), -1);
            c.due("breaks(0, " + k + ")", x.breaks(0, k), -1);
        }
        for (int f : new int[] {-1, 4, MIN, MAX}) {
            c.due("arm(" + f + ", 0)", x.arm(f, 0), -1);
            c.due("breaks(" + f + ", 0)", x.breaks(f, 0), -1);
        }
        c.due("size(0, 0)", x.size(0, 0), 91);
        c.due("arm(0, 0)", x.arm(0, 0), 5);
        c.due("arm(0, 5)", x.arm(0, 5), 5);
    }

    private static void layerOf0To60() {
        c.by(9, "How many CELLS have ICE since a MINUTE (0 to 60). BAD.");
        FlakeArms x = new FlakeArms();
        x.growth(0, 0);
        x.growth(0, 1);
        c.due("layer(0, 0)", x.layer(0, 0), 1);
        x.freeze(0, 0, 0, false);
        c.due("layer(0, 0) of none", x.layer(0, 0), 0);
        for (int minute : new int[] {-1, -2, -9, 61, 62, MIN, MAX}) {
            c.due("layer(0, " + minute + ")", x.layer(0, minute), -1);
        }
        x.freeze(0, 0, 0, true);
        Ice.passTo(x, 0, 59, 0);
        c.due("layer(0, 59)", x.layer(0, 59), 0);
        x.grow(0, 1);
        c.due("layer(0, 60)", x.layer(0, 60), 6);
        c.due("layer(0, 61)", x.layer(0, 61), -1);
        c.due("layer(0, 0)", x.layer(0, 0), 1);
        Ice.put(x, 0, Ice.all());
        c.due("layer(0, 60) of all", x.layer(0, 60), 91);
        c.due("layer(0, 0) of all", x.layer(0, 0), 0);
        c.due("layer(-1, 0)", x.layer(-1, 0), -1);
        c.due("layer(4, 0)", x.layer(4, 0), -1);
    }

    private static void apart() {
        c.by(11, "The least number of CELLS that have ICE in just one of a FLAKE and what another one comes to by some "
            + "turn, mirrored or not. BAD.");
        FlakeArms x = new FlakeArms();
        Ice.put(x, 1, new TreeSet<>());
        Ice.put(x, 2, Ice.all());
        c.due("apart(1, 2) of none and all", x.apart(1, 2), 91);
        c.due("apart(2, 1)", x.apart(2, 1), 91);
        c.due("apart(0, 1)", x.apart(0, 1), 1);
        c.due("apart(0, 2)", x.apart(0, 2), 90);
        c.due("apart(0, 3) of beginnings", x.apart(0, 3), 0);
        // Each of the twelve may be the one.
        for (int m = 0; m < 2; m++) {
            for (int turn = 0; turn < 6; turn++) {
                NaiveFlakes.At[] cells = {Ice.at(5, -1), Ice.at(3, 0), Ice.at(0, 2)};
                x.begin(0);
                x.begin(3);
                for (NaiveFlakes.At cell : cells) {
                    x.freeze(0, cell.q(), cell.r(), true);
                    NaiveFlakes.At to = m == 0 ? cell : Ice.at(cell.r(), cell.q());
                    for (int i = 0; i < turn; i++) {
                        to = to.turned();
                    }
                    x.freeze(3, to.q(), to.r(), true);
                }
                c.due("apart(0, 3) by " + turn + ", " + m, x.apart(0, 3), 0);
                c.due("apart(3, 0) by " + turn + ", " + m, x.apart(3, 0), 0);
                x.freeze(3, -1, -1, true);
                c.due("apart(0, 3) by " + turn + ", " + m + " but for one", x.apart(0, 3), 1);
            }
        }
        for (int f : new int[] {-1, 4, MIN, MAX}) {
            c.due("apart(" + f + ", 0)", x.apart(f, 0), -1);
            c.due("apart(3, " + f + ")", x.apart(3, f), -1);
            c.due("apart(" + f + ", " + f + ")", x.apart(f, f), -1);
        }
    }

    /** Only meet() names "the same" behind BAD. */
    private static void apartFromItself() {
        c.by(11, "The least number of CELLS that have ICE in just one of a FLAKE and what another one comes to by some "
            + "turn, mirrored or not. BAD.");
        FlakeArms x = new FlakeArms();
        Ice.put(x, 1, new TreeSet<>());
        Ice.put(x, 2, Ice.all());
        x.freeze(3, 4, -1, true);
        x.freeze(3, 0, 3, true);
        for (int f = 0; f < 4; f++) {
            c.due("apart(" + f + ", " + f + ")", x.apart(f, f), 0);
            c.due("meet(" + f + ", " + f + ", 0)", x.meet(f, f, 0), -1);
        }
        c.due("unlike(3, 0, true)", x.unlike(3, 0, true), 4);
    }

    private static void copyOfItself() {
        c.by(12, "A FLAKE (a) becomes as another one (b): its SIZE. BAD.");
        FlakeArms x = new FlakeArms();
        x.growth(0, 1);
        x.grow(1, 0);
        x.grow(1, 0);
        x.freeze(1, -1, -3, true);
        x.freeze(2, 0, 0, false);
        Ice.put(x, 3, Ice.all());
        int[] size = {1, 14, 0, 91};
        for (int f = 0; f < 4; f++) {
            c.due("copy(" + f + ", " + f + ")", x.copy(f, f), size[f]);
            c.due("size(" + f + ", 0)", x.size(f, 0), size[f]);
            c.due("size(" + f + ", 4)", x.size(f, 4), f == 1 ? 2 : 0);
        }
        c.due("layer(1, 0)", x.layer(1, 0), 1);
        c.due("layer(1, 1)", x.layer(1, 1), 6);
        c.due("layer(1, 2)", x.layer(1, 2), 7);
        c.due("cell(1, -1, -3)", x.cell(1, -1, -3), 2);
    }

    private static void copy() {
        c.by(12, "A FLAKE (a) becomes as another one (b): its SIZE. BAD.");
        FlakeArms x = new FlakeArms();
        x.growth(0, 0);
        x.growth(0, 1);
        Ice.passTo(x, 0, 58, 0);
        x.grow(0, 1);
        x.grow(0, 0);
        c.due("copy(3, 0)", x.copy(3, 0), 7);
        c.due("cell(3, 1, 0)", x.cell(3, 1, 0), 59);
        c.due("cell(3, 0, 0)", x.cell(3, 0, 0), 0);
        c.due("size(3, 4)", x.size(3, 4), 60);
        c.due("grow(3, 1)", x.grow(3, 1), -4);
        x.freeze(1, 0, 0, false);
        c.due("copy(0, 1) of none", x.copy(0, 1), 0);
        c.due("size(0, 4)", x.size(0, 4), 0);
        Ice.put(x, 2, Ice.all());
        c.due("copy(1, 2) of all", x.copy(1, 2), 91);
        c.due("size(2, 0)", x.size(2, 0), 91);
        // Each goes its own way from then on.
        x.breaks(2, 0);
        c.due("size(1, 0)", x.size(1, 0), 91);
        for (int f : new int[] {-1, 4, MIN, MAX}) {
            c.due("copy(" + f + ", 0)", x.copy(f, 0), -1);
            c.due("copy(0, " + f + ")", x.copy(0, f), -1);
        }
        c.due("size(0, 0)", x.size(0, 0), 0);
    }

    private static void meetNew() {
        c.by(13, "A FLAKE (a) has ICE, too, where another one (b), turned (0 to 5 by one), has it, since its own MINUTE: "
            + "how many CELLS are new.");
        FlakeArms x = new FlakeArms();
        x.growth(0, 0);
        Ice.put(x, 1, new TreeSet<>());
        Ice.put(x, 2, Ice.all());
        for (int turn = 0; turn < 6; turn++) {
            c.due("meet(0, 1, " + turn + ") of none", x.meet(0, 1, turn), 0);
            c.due("meet(2, 0, " + turn + ") with ICE all over", x.meet(2, 0, turn), 0);
        }
        Ice.passTo(x, 0, 60, 0);
        Ice.passTo(x, 2, 3, 0);
        c.due("meet(0, 2, 5) of all", x.meet(0, 2, 5), 90);
        c.due("layer(0, 60)", x.layer(0, 60), 90);
        c.due("cell(0, 0, 0)", x.cell(0, 0, 0), 0);
        c.due("meet(0, 2, 0)", x.meet(0, 2, 0), 0);
        c.due("meet(1, 2, 0) of all to none", x.meet(1, 2, 0), 91);
        c.due("layer(1, 0)", x.layer(1, 0), 91);
        c.due("size(2, 0)", x.size(2, 0), 91);
        c.due("layer(2, 0)", x.layer(2, 0), 91);
        c.due("size(2, 4)", x.size(2, 4), 3);
    }

    private static void meetRefused() {
        c.by(13, "BAD: no such FLAKES, the same, turn.");
        FlakeArms x = new FlakeArms();
        x.freeze(1, 2, 1, true);
        for (int f = 0; f < 4; f++) {
            for (int turn = -1; turn <= 6; turn++) {
                c.due("meet(" + f + ", " + f + ", " + turn + ")", x.meet(f, f, turn), -1);
            }
        }
        for (int turn : new int[] {-1, 6, MIN, MAX}) {
            c.due("meet(0, 1, " + turn + ")", x.meet(0, 1, turn), -1);
        }
        for (int f : new int[] {-1, 4, MIN, MAX}) {
            c.due("meet(" + f + ", 1, 0)", x.meet(f, 1, 0), -1);
            c.due("meet(0, " + f + ", 0)", x.meet(0, f, 0), -1);
        }
        c.due("size(0, 0)", x.size(0, 0), 1);
        c.due("meet(0, 1, 0)", x.meet(0, 1, 0), 1);
        c.due("meet(3, 1, 5)", x.meet(3, 1, 5), 1);
    }

    private static void breaks() {
        c.by(14, "CELLS of ARM k have no ICE any more: how many. BAD.");
        for (int k = 0; k < 6; k++) {
            FlakeArms x = new FlakeArms();
            c.due("breaks(0, " + k + ") without one", x.breaks(0, k), 0);
            Ice.put(x, 0, Ice.all());
            c.due("breaks(0, " + k + ") of all", x.breaks(0, k), 5);
            Set<NaiveFlakes.At> left = Ice.all();
            NaiveFlakes.At step = Ice.at(0, 0).towards(k);
            for (int far = 1; far <= 5; far++) {
                left.remove(Ice.at(step.q() * far, step.r() * far));
            }
            c.dueTrue("all but ARM " + k, Ice.of(x, 0).equals(left));
            c.due("breaks(0, " + k + ") again", x.breaks(0, k), 0);
            // Behind a gap nothing is of the ARM.
            x.freeze(0, step.q(), step.r(), true);
            x.freeze(0, step.q() * 3, step.r() * 3, true);
            c.due("breaks(0, " + k + ") with a gap", x.breaks(0, k), 1);
            c.due("size(0, 0)", x.size(0, 0), 87);
            c.due("cell behind the gap", x.cell(0, step.q() * 3, step.r() * 3), 0);
        }
    }
}
