/** Promises 1, 2 and 4 to 14: the beginning, THE TAPE, CELLS and what is told of FLAKES. */
public final class FlakesTest {
    private static final Checks c = new Checks();

    public static void main(String[] args) {
        newObject();
        feed();
        begin();
        cell();
        freeze();
        size();
        holes();
        arm();
        layer();
        unlike();
        apart();
        copy();
        meet();
        breaks();
        c.end();
    }

    private static void newObject() {
        FlakeArms x = new FlakeArms();
        for (int f = 0; f < 4; f++) {
            c.due(1, "size(" + f + ", 0)", x.size(f, 0), 1);
            c.due(1, "cell(" + f + ", 0, 0)", x.cell(f, 0, 0), 0);
            c.due(1, "size(" + f + ", 4)", x.size(f, 4), 0);
            c.due(1, "taken(" + f + ", 0)", x.taken(f, 0), -11);
            c.due(1, "item(" + f + ", 2, 0)", x.item(f, 2, 0), -11);
        }
        for (int what = 0; what < 5; what++) {
            c.due(1, "many(" + what + ")", x.many(what), 0);
        }
        for (int minute = 0; minute < 24; minute++) {
            c.due(1, "airOf(" + minute + ", 0)", x.airOf(minute, 0), 0);
            c.due(1, "airOf(" + minute + ", 1)", x.airOf(minute, 1), 0);
        }
        c.due(1, "again()", x.again(), -3);
        c.due(1, "picks(0, 0, 0)", x.picks(0, 0, 0), 0);
        c.due(1, "picked(0)", x.picked(0), 0);
        c.due(1, "miss(0)", x.miss(0), 0);
        c.due(1, "seed(5)", x.seed(5), 1);
        c.due(1, "a second object", new FlakeArms().seed(0), 1);
        c.due(1, "BAD", FlakeArms.BAD, -1);
        c.due(1, "FULL", FlakeArms.FULL, -2);
        c.due(1, "NONE", FlakeArms.NONE, -3);
        c.due(1, "STATE", FlakeArms.STATE, -4);
    }

    private static void feed() {
        FlakeArms x = new FlakeArms();
        c.due(2, "feed(1, 0)", x.feed(1, 0), -1);
        c.due(2, "feed(1, 9)", x.feed(1, 9), -1);
        c.due(2, "feed(1, -1)", x.feed(1, -1), -1);
        c.due(2, "feed(1, MAX)", x.feed(1, Integer.MAX_VALUE), -1);
        // "use 3;" with the lowest byte first; the two bytes above it count nothing.
        c.due(2, "feed(.., 6)", x.feed(0x7a7a3b3320657375L, 6), 6);
        c.due(2, "many(3)", x.many(3), 6);
        c.due(2, "law()", x.law(), 1);
        c.due(2, "picks(0, 0, 0)", x.picks(0, 0, 0), 3);
        c.due(2, "many(3)", x.many(3), 0);
        for (int i = 1; i <= 24; i++) {
            c.due(2, "feed(0, 8)", x.feed(0, 8), 8 * i);
        }
        c.due(2, "feed(0, 7)", x.feed(0, 7), 199);
        c.due(2, "feed(0, 2)", x.feed(0, 2), -2);
        c.due(2, "feed(0, 9)", x.feed(0, 9), -1);
        c.due(2, "many(3)", x.many(3), 199);
        c.due(2, "feed(0, 1)", x.feed(0, 1), 200);
        c.due(2, "feed(0, 1)", x.feed(0, 1), -2);
        c.due(2, "law()", x.law(), -100);
        c.due(2, "feed(0, 1)", x.feed(0, 1), 1);
    }

    private static void begin() {
        FlakeArms x = new FlakeArms();
        x.growth(0, 1);
        x.grow(3, 0);
        c.due(4, "begin(3)", x.begin(3), 7);
        c.due(4, "size(3, 0)", x.size(3, 0), 1);
        c.due(4, "size(3, 4)", x.size(3, 4), 0);
        c.due(4, "cell(3, 0, 0)", x.cell(3, 0, 0), 0);
        c.due(4, "cell(3, 1, 0)", x.cell(3, 1, 0), -9);
        x.freeze(1, 0, 0, false);
        c.due(4, "begin(1)", x.begin(1), 0);
        c.due(4, "begin(1)", x.begin(1), 1);
        c.due(4, "begin(-1)", x.begin(-1), -1);
        c.due(4, "begin(4)", x.begin(4), -1);
        c.due(4, "begin(MIN)", x.begin(Integer.MIN_VALUE), -1);
    }

    private static void cell() {
        FlakeArms x = new FlakeArms();
        x.growth(0, 1);
        x.grow(0, 0);
        int cells = 0;
        for (int q = -7; q <= 7; q++) {
            for (int r = -7; r <= 7; r++) {
                int got = x.cell(0, q, r);
                cells += got == -1 ? 0 : 1;
                boolean isCell = Math.abs(q) <= 5 && Math.abs(r) <= 5 && Math.abs(q + r) <= 5;
                c.due(5, "cell(0, " + q + ", " + r + ") is one", got == -1 ? 0 : 1, isCell ? 1 : 0);
            }
        }
        c.due(5, "CELLS", cells, 91);
        c.due(5, "cell(0, 0, 0)", x.cell(0, 0, 0), 0);
        c.due(5, "cell(0, 1, 0)", x.cell(0, 1, 0), 1);
        c.due(5, "cell(0, 0, 1)", x.cell(0, 0, 1), 1);
        c.due(5, "cell(0, -1, 1)", x.cell(0, -1, 1), 1);
        c.due(5, "cell(0, -1, 0)", x.cell(0, -1, 0), 1);
        c.due(5, "cell(0, 0, -1)", x.cell(0, 0, -1), 1);
        c.due(5, "cell(0, 1, -1)", x.cell(0, 1, -1), 1);
        c.due(5, "cell(0, 1, 1)", x.cell(0, 1, 1), -9);
        c.due(5, "cell(4, 0, 0)", x.cell(4, 0, 0), -1);
        c.due(5, "cell(-1, 0, 0)", x.cell(-1, 0, 0), -1);
        c.due(5, "cell(0, MAX, MAX)", x.cell(0, Integer.MAX_VALUE, Integer.MAX_VALUE), -1);
        c.due(5, "cell(0, MAX, -MAX)", x.cell(0, Integer.MAX_VALUE, -Integer.MAX_VALUE), -1);
        c.due(5, "cell(0, MIN, MIN)", x.cell(0, Integer.MIN_VALUE, Integer.MIN_VALUE), -1);
        c.due(5, "cell(0, 13, -1)", x.cell(0, 13, -1), -1);
    }

    private static void freeze() {
        FlakeArms x = new FlakeArms();
        x.growth(0, 0);
        x.grow(0, 0);
        x.grow(0, 0);
        c.due(6, "freeze(0, 5, -5, true)", x.freeze(0, 5, -5, true), 1);
        c.due(6, "cell(0, 5, -5)", x.cell(0, 5, -5), 2);
        c.due(6, "freeze(0, 0, 0, true)", x.freeze(0, 0, 0, true), 0);
        c.due(6, "cell(0, 0, 0)", x.cell(0, 0, 0), 0);
        c.due(6, "freeze(0, 0, 0, false)", x.freeze(0, 0, 0, false), 1);
        c.due(6, "freeze(0, 0, 0, false)", x.freeze(0, 0, 0, false), 0);
        c.due(6, "cell(0, 0, 0)", x.cell(0, 0, 0), -9);
        c.due(6, "freeze(0, 0, 0, true)", x.freeze(0, 0, 0, true), 1);
        c.due(6, "cell(0, 0, 0)", x.cell(0, 0, 0), 2);
        c.due(6, "freeze(0, 5, 1, true)", x.freeze(0, 5, 1, true), -1);
        c.due(6, "freeze(0, 6, -1, true)", x.freeze(0, 6, -1, true), -1);
        c.due(6, "freeze(4, 0, 0, true)", x.freeze(4, 0, 0, true), -1);
        c.due(6, "size(0, 0)", x.size(0, 0), 2);
        c.due(6, "cell(1, 5, -5)", x.cell(1, 5, -5), -9);
    }

    private static void size() {
        FlakeArms x = new FlakeArms();
        x.growth(0, 1);
        c.due(7, "size(0, 2)", x.size(0, 2), 6);
        x.freeze(0, 5, 0, true);
        c.due(7, "size(0, 0)", x.size(0, 0), 2);
        c.due(7, "size(0, 1)", x.size(0, 1), 5);
        // A corner has three CELLS beside it, one elsewhere on RING 5 four.
        c.due(7, "size(0, 2)", x.size(0, 2), 9);
        x.freeze(0, 4, 1, true);
        c.due(7, "size(0, 2)", x.size(0, 2), 11);
        x.freeze(0, 0, 0, false);
        x.freeze(0, 5, 0, false);
        c.due(7, "size(0, 2)", x.size(0, 2), 4);
        x.freeze(0, 4, 1, false);
        c.due(7, "size(0, 1)", x.size(0, 1), 0);
        c.due(7, "size(0, 2)", x.size(0, 2), 0);
        // RING counts q + r, too.
        x.freeze(0, 2, 2, true);
        c.due(7, "size(0, 1)", x.size(0, 1), 4);
        x.freeze(0, 3, -1, true);
        c.due(7, "size(0, 1)", x.size(0, 1), 4);
        x.grow(0, 0);
        c.due(7, "size(0, 4)", x.size(0, 4), 1);
        c.due(7, "size(0, 5)", x.size(0, 5), -1);
        c.due(7, "size(0, -1)", x.size(0, -1), -1);
        c.due(7, "size(4, 0)", x.size(4, 0), -1);
        c.due(7, "size(-1, 0)", x.size(-1, 0), -1);
    }

    private static void holes() {
        FlakeArms x = new FlakeArms();
        int[][] ring = {{1, 0}, {0, 1}, {-1, 1}, {-1, 0}, {0, -1}, {1, -1}};
        x.freeze(0, 0, 0, false);
        c.due(7, "size(0, 3) of none", x.size(0, 3), 0);
        for (int[] at : ring) {
            x.freeze(0, at[0], at[1], true);
        }
        c.due(7, "size(0, 3) of a ring", x.size(0, 3), 1);
        x.freeze(0, 1, 0, false);
        c.due(7, "size(0, 3) of an open ring", x.size(0, 3), 0);
        // All of RING 5: what lies in it has no way out; one of RING 5 without ICE opens it.
        for (int q = -5; q <= 5; q++) {
            for (int r = -5; r <= 5; r++) {
                if (Math.max(Math.max(Math.abs(q), Math.abs(r)), Math.abs(q + r)) == 5) {
                    x.freeze(1, q, r, true);
                }
            }
        }
        c.due(7, "size(1, 0)", x.size(1, 0), 31);
        c.due(7, "size(1, 3)", x.size(1, 3), 60);
        x.freeze(1, 5, -5, false);
        c.due(7, "size(1, 3)", x.size(1, 3), 0);
        x.freeze(1, 4, -4, true);
        c.due(7, "size(1, 3)", x.size(1, 3), 59);
    }

    private static void arm() {
        FlakeArms x = new FlakeArms();
        int[][] towards = {{1, 0}, {0, 1}, {-1, 1}, {-1, 0}, {0, -1}, {1, -1}};
        for (int k = 0; k < 6; k++) {
            for (int far = 1; far < k; far++) {
                x.freeze(0, towards[k][0] * far, towards[k][1] * far, true);
            }
        }
        for (int k = 0; k < 6; k++) {
            c.due(8, "arm(0, " + k + ")", x.arm(0, k), Math.max(0, k - 1));
        }
        x.freeze(0, 2, 0, true);
        c.due(8, "arm(0, 0) behind a gap", x.arm(0, 0), 0);
        x.freeze(0, 1, 0, true);
        c.due(8, "arm(0, 0)", x.arm(0, 0), 2);
        x.freeze(0, 5, -5, true);
        c.due(8, "arm(0, 5) to the end", x.arm(0, 5), 5);
        x.freeze(0, 0, 0, false);
        c.due(8, "arm(0, 5) without (0, 0)", x.arm(0, 5), 5);
        c.due(8, "arm(0, 6)", x.arm(0, 6), -1);
        c.due(8, "arm(0, -1)", x.arm(0, -1), -1);
        c.due(8, "arm(4, 0)", x.arm(4, 0), -1);
    }

    private static void layer() {
        FlakeArms x = new FlakeArms();
        x.growth(0, 1);
        x.grow(0, 0);
        c.due(9, "layer(0, 0)", x.layer(0, 0), 1);
        c.due(9, "layer(0, 1)", x.layer(0, 1), 6);
        c.due(9, "layer(0, 2)", x.layer(0, 2), 0);
        c.due(9, "layer(0, 60)", x.layer(0, 60), 0);
        c.due(9, "layer(0, 61)", x.layer(0, 61), -1);
        c.due(9, "layer(0, -1)", x.layer(0, -1), -1);
        c.due(9, "layer(0, -2)", x.layer(0, -2), -1);
        c.due(9, "layer(4, 0)", x.layer(4, 0), -1);
    }

    private static void unlike() {
        FlakeArms x = new FlakeArms();
        // (2, -1) turns to (1, 1), (-1, 2), (-2, 1), (-1, -1), (1, -2); MIRRORED it is (-1, 2).
        x.freeze(0, 2, -1, true);
        x.freeze(0, 1, 1, true);
        c.due(10, "unlike(0, 0, false)", x.unlike(0, 0, false), 0);
        c.due(10, "unlike(0, 1, false)", x.unlike(0, 1, false), 2);
        c.due(10, "unlike(0, 2, false)", x.unlike(0, 2, false), 4);
        c.due(10, "unlike(0, 3, false)", x.unlike(0, 3, false), 4);
        c.due(10, "unlike(0, 5, false)", x.unlike(0, 5, false), 2);
        // MIRRORED: (-1, 2) and (1, 1); turned by 5 then: (1, 1) and (2, -1).
        c.due(10, "unlike(0, 0, true)", x.unlike(0, 0, true), 2);
        c.due(10, "unlike(0, 5, true)", x.unlike(0, 5, true), 0);
        c.due(10, "unlike(0, 1, true)", x.unlike(0, 1, true), 4);
        c.due(10, "unlike(0, 6, false)", x.unlike(0, 6, false), -1);
        c.due(10, "unlike(0, -1, true)", x.unlike(0, -1, true), -1);
        c.due(10, "unlike(4, 0, true)", x.unlike(4, 0, true), -1);
    }

    private static void apart() {
        FlakeArms x = new FlakeArms();
        x.freeze(0, 3, 1, true);
        x.freeze(1, 1, 3, true);
        c.due(11, "apart(0, 1) MIRRORED", x.apart(0, 1), 0);
        x.freeze(2, -3, -1, true);
        c.due(11, "apart(0, 2) turned", x.apart(0, 2), 0);
        x.freeze(2, 1, 0, true);
        c.due(11, "apart(0, 2)", x.apart(0, 2), 1);
        c.due(11, "apart(2, 0)", x.apart(2, 0), 1);
        c.due(11, "apart(2, 3)", x.apart(2, 3), 2);
        c.due(11, "apart(0, 0)", x.apart(0, 0), 0);
        c.due(11, "apart(0, 4)", x.apart(0, 4), -1);
        c.due(11, "apart(4, 0)", x.apart(4, 0), -1);
        c.due(11, "apart(-1, 0)", x.apart(-1, 0), -1);
    }

    private static void copy() {
        FlakeArms x = new FlakeArms();
        x.growth(0, 1);
        x.grow(1, 0);
        c.due(12, "copy(0, 1)", x.copy(0, 1), 7);
        c.due(12, "cell(0, 1, 0)", x.cell(0, 1, 0), 1);
        c.due(12, "size(0, 4)", x.size(0, 4), 1);
        x.freeze(0, 2, 0, true);
        c.due(12, "cell(1, 2, 0)", x.cell(1, 2, 0), -9);
        c.due(12, "copy(0, 0)", x.copy(0, 0), 8);
        c.due(12, "copy(0, 4)", x.copy(0, 4), -1);
        c.due(12, "copy(4, 0)", x.copy(4, 0), -1);
        c.due(12, "size(0, 0)", x.size(0, 0), 8);
        c.due(12, "copy(0, 2)", x.copy(0, 2), 1);
        c.due(12, "size(0, 4)", x.size(0, 4), 0);
    }

    private static void meet() {
        FlakeArms x = new FlakeArms();
        x.growth(0, 1);
        x.growth(0, 0);
        x.grow(1, 0);
        x.freeze(1, 3, 0, true);
        for (int i = 0; i < 4; i++) {
            x.grow(0, 1);
        }
        x.freeze(0, 1, 0, true);
        x.grow(0, 1);
        c.due(13, "meet(0, 1, 1)", x.meet(0, 1, 1), 6);
        c.due(13, "cell(0, 0, 3)", x.cell(0, 0, 3), 5);
        c.due(13, "cell(0, 3, 0)", x.cell(0, 3, 0), -9);
        c.due(13, "cell(0, 1, 0)", x.cell(0, 1, 0), 4);
        c.due(13, "cell(0, 0, 0)", x.cell(0, 0, 0), 0);
        c.due(13, "size(0, 4)", x.size(0, 4), 5);
        c.due(13, "size(1, 0)", x.size(1, 0), 8);
        c.due(13, "meet(0, 1, 1)", x.meet(0, 1, 1), 0);
        c.due(13, "meet(0, 1, 0)", x.meet(0, 1, 0), 1);
        c.due(13, "meet(0, 1, 5)", x.meet(0, 1, 5), 1);
        c.due(13, "cell(0, 3, -3)", x.cell(0, 3, -3), 5);
        c.due(13, "meet(0, 0, 1)", x.meet(0, 0, 1), -1);
        c.due(13, "meet(0, 1, 6)", x.meet(0, 1, 6), -1);
        c.due(13, "meet(0, 1, -1)", x.meet(0, 1, -1), -1);
        c.due(13, "meet(0, 4, 0)", x.meet(0, 4, 0), -1);
        c.due(13, "meet(-1, 0, 0)", x.meet(-1, 0, 0), -1);
    }

    private static void breaks() {
        FlakeArms x = new FlakeArms();
        x.freeze(0, 1, -1, true);
        x.freeze(0, 2, -2, true);
        x.freeze(0, 4, -4, true);
        x.freeze(0, 1, 0, true);
        c.due(14, "breaks(0, 6)", x.breaks(0, 6), -1);
        c.due(14, "breaks(0, -1)", x.breaks(0, -1), -1);
        c.due(14, "breaks(4, 0)", x.breaks(4, 0), -1);
        c.due(14, "size(0, 0)", x.size(0, 0), 5);
        c.due(14, "breaks(0, 5)", x.breaks(0, 5), 2);
        c.due(14, "cell(0, 0, 0)", x.cell(0, 0, 0), 0);
        c.due(14, "cell(0, 1, -1)", x.cell(0, 1, -1), -9);
        c.due(14, "cell(0, 2, -2)", x.cell(0, 2, -2), -9);
        c.due(14, "cell(0, 4, -4)", x.cell(0, 4, -4), 0);
        c.due(14, "cell(0, 1, 0)", x.cell(0, 1, 0), 0);
        c.due(14, "breaks(0, 5)", x.breaks(0, 5), 0);
        c.due(14, "breaks(0, 0)", x.breaks(0, 0), 1);
        c.due(14, "cell(0, 1, 0)", x.cell(0, 1, 0), -9);
    }
}
