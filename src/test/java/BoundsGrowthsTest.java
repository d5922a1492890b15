import java.util.ArrayList;
import java.util.List;
import java.util.Set;

/** GROWTHS, MISS, AIRS and promises 15 to 22 and 25: each sentence that names a boundary case. */
public final class BoundsGrowthsTest {
    private static final int MIN = Integer.MIN_VALUE;
    private static final int MAX = Integer.MAX_VALUE;
    private static final int[] NONE_OF_FLAKES = {-1, 4, MIN, MAX};
    private static final Checks c = new Checks();

    public static void main(String[] args) {
        sixGrowths();
        kindsAndAs();
        growthRefused();
        growthOf();
        nAboveZero();
        eachKind();
        fourOrMore();
        towards0And3();
        onTheArms();
        besideTheArms();
        qNotBelow0();
        allAtOnce();
        wouldBe();
        growRefused();
        miss0To4();
        zGoesOn();
        zWraps();
        inOrder();
        miss();
        seed();
        airs();
        airRefused();
        airOf();
        modulo24();
        fallsSoMany();
        fallEnds();
        c.end();
    }

    private static void sixGrowths() {
        c.by(15, "GROWTHS, 6 at most, numbered as they come");
        for (int kind = 0; kind < 6; kind++) {
            FlakeArms x = new FlakeArms();
            for (int i = 0; i < 6; i++) {
                c.due("many(0)", x.many(0), i);
                c.due("growth(" + kind + ", " + i + ")", x.growth(kind, i), i);
            }
            c.due("growth(" + kind + ", 6)", x.growth(kind, 6), -2);
            c.due("many(0)", x.many(0), 6);
            for (int i = 0; i < 6; i++) {
                c.due("growthOf(" + i + ", 1)", x.growthOf(i, 1), i);
            }
        }
        // Numbers go on from what is there again.
        FlakeArms x = new FlakeArms();
        x.growth(0, 1);
        x.keep();
        for (int i = 1; i < 6; i++) {
            x.growth(1, i);
        }
        x.again();
        c.due("growth(2, 9)", x.growth(2, 9), 1);
        c.due("growthOf(1, 0)", x.growthOf(1, 0), 2);
        c.due("growthOf(2, 0)", x.growthOf(2, 0), -1);
        for (int i = 2; i < 6; i++) {
            c.due("growth(0, 0)", x.growth(0, 0), i);
        }
        c.due("growth(0, 0)", x.growth(0, 0), -2);
    }

    private static void kindsAndAs() {
        c.by(15, "a KIND: 0 growth; 1 plated, 2 needled, 5 broken (under growth), 3 armed (under plated), 4 sided (under "
            + "armed); A (0 to 63).");
        for (int kind = 0; kind < 6; kind++) {
            for (int a : new int[] {0, 63}) {
                FlakeArms x = new FlakeArms();
                c.due("growth(" + kind + ", " + a + ")", x.growth(kind, a), 0);
                c.due("growthOf(0, 0)", x.growthOf(0, 0), kind);
                c.due("growthOf(0, 1)", x.growthOf(0, 1), a);
            }
        }
        FlakeArms x = new FlakeArms();
        for (int kind : new int[] {-1, 6, MIN, MAX}) {
            c.due("growth(" + kind + ", 1)", x.growth(kind, 1), -1);
        }
        for (int kind = 0; kind < 6; kind++) {
            for (int a : new int[] {-1, 64, MIN, MAX}) {
                c.due("growth(" + kind + ", " + a + ")", x.growth(kind, a), -1);
            }
        }
        c.due("many(0)", x.many(0), 0);
    }

    private static void growthRefused() {
        c.by(15, "A GROWTH: its number. BAD; FULL.");
        FlakeArms x = new FlakeArms();
        for (int i = 0; i < 6; i++) {
            x.growth(0, 1);
        }
        c.due("growth(0, 1)", x.growth(0, 1), -2);
        c.due("growth(6, 1)", x.growth(6, 1), -1);
        c.due("growth(-1, 1)", x.growth(-1, 1), -1);
        c.due("growth(0, 64)", x.growth(0, 64), -1);
        c.due("growth(0, -1)", x.growth(0, -1), -1);
    }

    private static void growthOf() {
        c.by(16, "Of a GROWTH: what = 0 KIND, 1 A. BAD.");
        FlakeArms x = new FlakeArms();
        c.due("growthOf(0, 0)", x.growthOf(0, 0), -1);
        c.due("growthOf(0, 1)", x.growthOf(0, 1), -1);
        for (int i = 0; i < 6; i++) {
            x.growth(5 - i, 60 - i);
            c.due("growthOf(" + i + ", 0)", x.growthOf(i, 0), 5 - i);
            c.due("growthOf(" + i + ", 1)", x.growthOf(i, 1), 60 - i);
            c.due("growthOf(" + (i + 1) + ", 0)", x.growthOf(i + 1, 0), -1);
        }
        for (int what : new int[] {-1, 2, MIN, MAX}) {
            c.due("growthOf(0, " + what + ")", x.growthOf(0, what), -1);
        }
        for (int g : new int[] {-1, MIN, MAX}) {
            c.due("growthOf(" + g + ", 0)", x.growthOf(g, 0), -1);
        }
    }

    /** Whether a CELL of FLAKE 0 FREEZES by a GROWTH: a copy of it, FLAKE 1, grows by that. */
    private static void freezes(FlakeArms x, NaiveFlakes.At cell, int bits, int growth, boolean want) {
        x.copy(1, 0);
        x.grow(1, growth);
        c.due("KIND " + x.growthOf(growth, 0) + ", A " + x.growthOf(growth, 1) + " at " + cell + " by " + bits,
            x.cell(1, cell.q(), cell.r()), want ? 1 : -9);
    }

    /** An object whose FLAKE 0 has ICE beside a CELL alone, towards those of bits. */
    private static FlakeArms with(NaiveFlakes.At cell, int bits) {
        FlakeArms x = new FlakeArms();
        x.freeze(0, 0, 0, false);
        for (int k = 0; k < 6; k++) {
            if ((bits >> k & 1) == 1) {
                x.freeze(0, cell.towards(k).q(), cell.towards(k).r(), true);
            }
        }
        return x;
    }

    /** How many of bits are CELLS beside one. */
    private static int beside(NaiveFlakes.At cell, int bits) {
        int n = 0;
        for (int k = 0; k < 6; k++) {
            n += (bits >> k & 1) == 1 && cell.towards(k).isCell() ? 1 : 0;
        }
        return n;
    }

    private static void nAboveZero() {
        c.by(18, "it FREEZES, if n is above 0 and bit n - 1 of A is 1.");
        NaiveFlakes.At cell = Ice.at(2, 1);
        for (int bits = 0; bits < 64; bits++) {
            int n = Integer.bitCount(bits);
            FlakeArms x = with(cell, bits);
            for (int bit = 0; bit < 6; bit++) {
                x.growth(0, 1 << bit);
                freezes(x, cell, bits, bit, n == bit + 1);
            }
            x = with(cell, bits);
            for (int bit = 0; bit < 6; bit++) {
                x.growth(0, 63 - (1 << bit));
                freezes(x, cell, bits, bit, n > 0 && n != bit + 1);
            }
            x = with(cell, bits);
            x.growth(0, 0);
            freezes(x, cell, bits, 0, false);
            x.growth(0, 63);
            freezes(x, cell, bits, 1, n > 0);
        }
        // Nothing comes of nothing, by no KIND and no A.
        FlakeArms x = new FlakeArms();
        x.freeze(0, 0, 0, false);
        for (int kind = 0; kind < 6; kind++) {
            x.growth(kind, 63);
            c.due("wouldBe(0, " + kind + ") of none", x.wouldBe(0, kind), 0);
        }
        Ice.put(x, 0, Ice.all());
        for (int kind = 0; kind < 6; kind++) {
            c.due("wouldBe(0, " + kind + ") of all", x.wouldBe(0, kind), 0);
            c.due("grow(0, " + kind + ") of all", x.grow(0, kind), 0);
        }
    }

    /** Each KIND at CELLS on and off the arms, of even and odd RINGS, within and at the end. */
    private static void eachKind() {
        c.by(18, "What a CELL without ICE does:");
        int[][] cells = {{0, 0}, {1, 0}, {0, -1}, {2, -2}, {-3, 0}, {1, 1}, {-1, -1}, {2, 1}, {-2, -1}, {3, 1}, {-3, 4},
            {4, 1}, {5, 0}, {5, -2}, {-5, 5}, {-1, 2}, {0, 5}};
        for (int[] q : cells) {
            NaiveFlakes.At cell = Ice.at(q[0], q[1]);
            for (int bits = 0; bits < 64; bits++) {
                for (int a : new int[] {0, 63, 1 << beside(cell, bits) >> 1}) {
                    FlakeArms x = with(cell, bits);
                    for (int kind = 0; kind < 6; kind++) {
                        x.growth(kind, a);
                        freezes(x, cell, bits, kind, isDue(kind, a, cell, bits));
                    }
                }
            }
        }
    }

    private static boolean isDue(int kind, int a, NaiveFlakes.At cell, int bits) {
        int n = beside(cell, kind == 2 ? bits & 0b001001 : bits);
        boolean onArm = cell.q() == 0 || cell.r() == 0 || cell.q() + cell.r() == 0;
        boolean plain = n > 0 && (a >> (n - 1) & 1) == 1;
        switch (kind) {
            case 1: return plain || n >= 4;
            case 3: return onArm && (plain || n >= 4);
            case 4: return onArm ? plain || n >= 4 : n == 1 && cell.ring() % 2 == 0;
            case 5: return plain && cell.q() >= 0;
            default: return plain;
        }
    }

    private static void fourOrMore() {
        c.by(18, "plated: as growth, or if n is 4 or more.");
        NaiveFlakes.At cell = Ice.at(0, 2);
        for (int n = 0; n <= 6; n++) {
            FlakeArms x = with(cell, (1 << n) - 1);
            for (int kind : new int[] {1, 3, 4}) {
                x.growth(kind, 0);
                freezes(x, cell, n, x.many(0) - 1, n >= 4);
            }
            x.growth(1, 4);
            freezes(x, cell, n, 3, n >= 3);
            x.growth(0, 4);
            freezes(x, cell, n, 4, n == 3);
        }
    }

    private static void towards0And3() {
        c.by(18, "needled: as growth, but n counts CELLS towards 0 and 3 alone.");
        NaiveFlakes.At cell = Ice.at(-1, -1);
        for (int bits = 0; bits < 64; bits++) {
            int n = (bits & 1) + (bits >> 3 & 1);
            FlakeArms x = with(cell, bits);
            x.growth(2, 1);
            freezes(x, cell, bits, 0, n == 1);
            x.growth(2, 2);
            freezes(x, cell, bits, 1, n == 2);
            x.growth(2, 60);
            freezes(x, cell, bits, 2, false);
        }
        // At the ends of a row there is but one of the two.
        for (int[] q : new int[][] {{5, 0}, {-5, 0}, {0, 5}, {5, -5}}) {
            cell = Ice.at(q[0], q[1]);
            FlakeArms x = with(cell, 0b001001);
            x.growth(2, 1);
            freezes(x, cell, 9, 0, true);
            x.growth(2, 2);
            freezes(x, cell, 9, 1, false);
        }
    }

    private static void onTheArms() {
        c.by(18, "armed: as plated, if q, r or q + r is 0; else it doesn't.");
        int onArms = 0;
        for (NaiveFlakes.At cell : NaiveFlakes.CELLS) {
            boolean onArm = cell.q() == 0 || cell.r() == 0 || cell.q() == -cell.r();
            FlakeArms x = with(cell, 63);
            x.growth(3, 63);
            freezes(x, cell, 63, 0, onArm);
            onArms += onArm ? 1 : 0;
        }
        c.due("CELLS on the arms", onArms, 31);
    }

    private static void besideTheArms() {
        c.by(18, "sided: as armed; but if none of these is 0: if n is 1 and its RING is even.");
        for (NaiveFlakes.At cell : NaiveFlakes.CELLS) {
            boolean onArm = cell.q() == 0 || cell.r() == 0 || cell.q() == -cell.r();
            int toMiddle = 0;
            while (cell.ring() > 0 && cell.towards(toMiddle).ring() >= cell.ring()) {
                toMiddle++;
            }
            // By one beside it, by two, by none: A counts on the arms alone.
            int another = 1;
            while (cell.ring() > 0 && (1 << toMiddle == another || beside(cell, another) == 0)) {
                another <<= 1;
            }
            for (int a : new int[] {1, 2}) {
                FlakeArms x = with(cell, 1 << toMiddle);
                x.growth(4, a);
                freezes(x, cell, 1 << toMiddle, 0, onArm ? a == 1 : cell.ring() % 2 == 0);
                if (cell.ring() > 0) {
                    x = with(cell, 1 << toMiddle | another);
                    x.growth(4, a);
                    freezes(x, cell, 1 << toMiddle | another, 0, onArm && a == 2);
                }
                x = with(cell, 0);
                x.growth(4, a);
                freezes(x, cell, 0, 0, false);
            }
        }
    }

    private static void qNotBelow0() {
        c.by(18, "broken: as growth, if q isn't below 0; else it doesn't.");
        for (NaiveFlakes.At cell : NaiveFlakes.CELLS) {
            FlakeArms x = with(cell, 63);
            x.growth(5, 63);
            freezes(x, cell, 63, 0, cell.q() >= 0);
            x.growth(5, 0);
            freezes(x, cell, 63, 1, false);
        }
    }

    private static void allAtOnce() {
        c.by(18, "all CELLS that FREEZE have ICE since this MINUTE (the FLAKE's is 1 more), all at once.");
        FlakeArms x = new FlakeArms();
        x.growth(0, 63);
        int[] rings = {1, 6, 12, 18, 24, 30, 0, 0};
        for (int minute = 1; minute <= 7; minute++) {
            c.due("grow(0, 0)", x.grow(0, 0), rings[minute]);
            c.due("size(0, 4)", x.size(0, 4), minute);
            c.due("size(0, 1)", x.size(0, 1), Math.min(5, minute));
            for (int ring = 0; ring <= 5; ring++) {
                c.due("layer(0, " + ring + ")", x.layer(0, ring), ring <= minute ? rings[ring] : 0);
            }
        }
        c.due("size(0, 0)", x.size(0, 0), 91);
        // With ICE already a CELL keeps the MINUTE that it has.
        c.due("cell(0, 5, 0)", x.cell(0, 5, 0), 5);
        c.due("cell(0, 0, 0)", x.cell(0, 0, 0), 0);
    }

    private static void wouldBe() {
        c.by(17, "How many CELLS would FREEZE by a GROWTH. BAD.");
        FlakeArms x = new FlakeArms();
        c.due("wouldBe(0, 0)", x.wouldBe(0, 0), -1);
        x.growth(0, 63);
        c.due("wouldBe(0, 0)", x.wouldBe(0, 0), 6);
        for (int f : NONE_OF_FLAKES) {
            c.due("wouldBe(" + f + ", 0)", x.wouldBe(f, 0), -1);
        }
        for (int g : new int[] {-1, 1, 5, 6, MIN, MAX}) {
            c.due("wouldBe(0, " + g + ")", x.wouldBe(0, g), -1);
        }
        // The most of all: by one of three CELLS each other one has ICE beside it.
        Set<NaiveFlakes.At> third = Ice.all();
        third.removeIf(cell -> Math.floorMod(cell.q() - cell.r(), 3) != 0);
        Ice.put(x, 0, third);
        c.due("wouldBe(0, 0) of a third", x.wouldBe(0, 0), 91 - third.size());
        for (int m = 0; m <= 4; m++) {
            x.miss(m);
            c.due("wouldBe(0, 0) with MISS " + m, x.wouldBe(0, 0), 91 - third.size());
        }
        c.due("seed(1)", x.seed(1), 1);
        c.due("size(0, 4)", x.size(0, 4), 0);
        c.due("size(0, 0)", x.size(0, 0), third.size());
    }

    private static void growRefused() {
        c.by(18, "BAD; STATE: its MINUTE is 60.");
        FlakeArms x = new FlakeArms();
        c.due("grow(0, 0)", x.grow(0, 0), -1);
        x.growth(0, 0);
        x.growth(0, 1);
        Ice.passTo(x, 0, 59, 0);
        x.miss(1);
        c.due("grow(0, 0)", x.grow(0, 0), 0);
        c.due("grow(0, 1)", x.grow(0, 1), -4);
        for (int g : new int[] {-1, 2, 6, MIN, MAX}) {
            c.due("grow(0, " + g + ") at MINUTE 60", x.grow(0, g), -1);
            c.due("grow(1, " + g + ")", x.grow(1, g), -1);
        }
        for (int f : NONE_OF_FLAKES) {
            c.due("grow(" + f + ", 1)", x.grow(f, 1), -1);
        }
        c.due("size(1, 4)", x.size(1, 4), 0);
        c.due("seed(1)", x.seed(1), 1);
    }

    private static int next(int z) {
        return (int) (z * 1103515245L + 12345L);
    }

    private static void miss0To4() {
        c.by(19, "With MISS m (0 to 4; 0 at first) above 0");
        FlakeArms x = new FlakeArms();
        x.growth(0, 1);
        x.seed(0);
        c.due("grow(0, 0) at first", x.grow(0, 0), 6);
        c.due("seed(0) at first", x.seed(0), 0);
        for (int m = 0; m <= 4; m++) {
            c.due("miss(" + m + ")", x.miss(m), Math.max(0, m - 1));
            x.begin(0);
            x.seed(0);
            int z = 0;
            int due = 0;
            for (int i = 0; i < 6; i++) {
                z = next(z);
                due += (z >>> 16) % 4 >= m ? 1 : 0;
            }
            c.due("grow(0, 0) with MISS " + m, x.grow(0, 0), m == 0 ? 6 : due);
            c.due("seed(0) behind MISS " + m, x.seed(0), m == 0 ? 0 : z);
        }
        for (int m : new int[] {-1, 5, MIN, MAX}) {
            c.due("miss(" + m + ")", x.miss(m), -1);
        }
        c.due("miss(0)", x.miss(0), 4);
        c.due("miss(0)", x.miss(0), 0);
    }

    private static void zGoesOn() {
        c.by(18, "of those that would FREEZE, in order, for each: z (an int; 1 at first) becomes z * 1103515245 + 12345");
        FlakeArms x = new FlakeArms();
        x.growth(0, 63);
        x.growth(0, 0);
        x.miss(4);
        int z = 1;
        c.due("grow(0, 1) of none", x.grow(0, 1), 0);
        c.due("seed at first", x.seed(1), 1);
        for (int i = 0; i < 20; i++) {
            int would = x.wouldBe(i % 4, 0);
            x.miss(1 + i % 4);
            x.grow(i % 4, 0);
            for (int k = 0; k < would; k++) {
                z = next(z);
            }
            int now = x.seed(0);
            c.due("z behind " + would + " CELLS more", now, z);
            x.seed(now);
        }
        x.miss(0);
        x.grow(3, 0);
        c.due("seed without MISS", x.seed(0), z);
    }

    /** One CELL alone would FREEZE, by z as it is seeded: the int wraps, and >>> fills up with 0. */
    private static void zWraps() {
        c.by(18, "it does, if (z >>> 16) % 4 is m or more.");
        FlakeArms x = new FlakeArms();
        x.growth(2, 1);
        Ice.put(x, 0, Ice.allBut(Ice.at(5, 0)));
        int[] seen = new int[4];
        int below = 0;
        for (int i = 0; i < 24; i++) {
            int seed = new int[] {0, 1, -1, MIN, MAX, 1 << 16, 0x12345678, -77777}[i % 8] + i / 8;
            int z = next(seed);
            below += z < 0 ? 1 : 0;
            int rest = (z >>> 16) % 4;
            seen[rest]++;
            for (int m = 1; m <= 4; m++) {
                x.miss(m);
                x.seed(seed);
                x.copy(1, 0);
                c.due("grow(1, 0) by seed " + seed + ", MISS " + m, x.grow(1, 0), rest >= m ? 1 : 0);
            }
            c.due("seed", x.seed(0), z);
        }
        for (int rest = 0; rest < 4; rest++) {
            c.dueTrue("some z with " + rest, seen[rest] > 0);
        }
        c.dueTrue("some z below 0 and some above", below > 0 && below < 24);
    }

    private static void inOrder() {
        c.by(18, "CELLS are in order by r, then by q.");
        FlakeArms x = new FlakeArms();
        x.growth(0, 63);
        Set<NaiveFlakes.At> third = Ice.all();
        third.removeIf(cell -> Math.floorMod(cell.q() - cell.r(), 3) != 0);
        for (int m = 1; m <= 3; m++) {
            Ice.put(x, 0, third);
            x.miss(m);
            x.seed(m * 1000);
            x.grow(0, 0);
            int z = m * 1000;
            List<String> wrong = new ArrayList<>();
            for (int r = -5; r <= 5; r++) {
                for (int q = -5; q <= 5; q++) {
                    if (Ice.at(q, r).isCell() && !third.contains(Ice.at(q, r))) {
                        z = next(z);
                        if ((x.cell(0, q, r) >= 0) != ((z >>> 16) % 4 >= m)) {
                            wrong.add(q + ", " + r);
                        }
                    }
                }
            }
            c.dueTrue("CELLS by MISS " + m + " but " + wrong, wrong.isEmpty());
            c.due("seed(0)", x.seed(0), z);
            x.begin(0);
        }
    }

    private static void miss() {
        c.by(19, "MISS becomes m: what it was. BAD.");
        FlakeArms x = new FlakeArms();
        c.due("miss(0)", x.miss(0), 0);
        c.due("miss(4)", x.miss(4), 0);
        c.due("miss(5)", x.miss(5), -1);
        c.due("miss(-1)", x.miss(-1), -1);
        c.due("miss(4)", x.miss(4), 4);
        c.due("miss(0)", x.miss(0), 4);
        c.due("miss(1)", x.miss(1), 0);
    }

    private static void seed() {
        c.by(20, "z becomes v: what it was.");
        FlakeArms x = new FlakeArms();
        int before = 1;
        for (int v : new int[] {0, -1, MIN, MAX, -4, 5}) {
            c.due("seed(" + v + ")", x.seed(v), before);
            before = v;
        }
    }

    private static void airs() {
        c.by(21, "AIRS of MINUTES 0 to 23: warm and wet (0 to 9 each; 0 at first).");
        FlakeArms x = new FlakeArms();
        for (int minute = 0; minute < 24; minute++) {
            c.due("airOf(" + minute + ", 0) at first", x.airOf(minute, 0), 0);
            c.due("airOf(" + minute + ", 1) at first", x.airOf(minute, 1), 0);
            c.due("air(" + minute + ")", x.air(minute, minute % 10, 9 - minute % 7), 1);
        }
        for (int minute = 0; minute < 24; minute++) {
            c.due("airOf(" + minute + ", 0)", x.airOf(minute, 0), minute % 10);
            c.due("airOf(" + minute + ", 1)", x.airOf(minute, 1), 9 - minute % 7);
        }
        for (int v : new int[] {0, 9}) {
            c.due("air(7, " + v + ", " + (9 - v) + ")", x.air(7, v, 9 - v), 1);
            c.due("airOf(7, 0)", x.airOf(7, 0), v);
            c.due("airOf(7, 1)", x.airOf(7, 1), 9 - v);
            c.due("picks(0, " + v + ", " + (9 - v) + ")", x.picks(0, v, 9 - v), 0);
        }
    }

    private static void airRefused() {
        c.by(21, "AIR of a MINUTE (0 to 23): 1. BAD.");
        FlakeArms x = new FlakeArms();
        x.air(0, 4, 5);
        x.air(23, 6, 7);
        for (int minute : new int[] {-1, 24, MIN, MAX}) {
            c.due("air(" + minute + ", 1, 1)", x.air(minute, 1, 1), -1);
        }
        for (int v : new int[] {-1, 10, MIN, MAX}) {
            c.due("air(0, " + v + ", 1)", x.air(0, v, 1), -1);
            c.due("air(0, 1, " + v + ")", x.air(0, 1, v), -1);
            c.due("air(23, " + v + ", 1)", x.air(23, v, 1), -1);
            c.due("air(23, 1, " + v + ")", x.air(23, 1, v), -1);
        }
        c.due("airOf(0, 0)", x.airOf(0, 0), 4);
        c.due("airOf(0, 1)", x.airOf(0, 1), 5);
        c.due("airOf(23, 0)", x.airOf(23, 0), 6);
        c.due("airOf(23, 1)", x.airOf(23, 1), 7);
    }

    private static void airOf() {
        c.by(22, "warm (what 0), wet (1) of a MINUTE. BAD.");
        FlakeArms x = new FlakeArms();
        for (int minute : new int[] {-1, 24, MIN, MAX}) {
            c.due("airOf(" + minute + ", 0)", x.airOf(minute, 0), -1);
            c.due("airOf(" + minute + ", 1)", x.airOf(minute, 1), -1);
        }
        for (int what : new int[] {-1, 2, MIN, MAX}) {
            c.due("airOf(0, " + what + ")", x.airOf(0, what), -1);
            c.due("airOf(23, " + what + ")", x.airOf(23, what), -1);
        }
        c.due("airOf(0, 0)", x.airOf(0, 0), 0);
        c.due("airOf(23, 1)", x.airOf(23, 1), 0);
    }

    private static void modulo24() {
        c.by(25, "each time the air is that of its MINUTE modulo 24");
        for (int hour = 0; hour < 24; hour++) {
            FlakeArms x = new FlakeArms();
            x.growth(0, 0);
            x.growth(0, 1);
            x.air(hour, 3, 0);
            Checks.law(x, "use 1 if warm = 3;");
            int due = 1;
            for (int minute = 0; minute < 60; minute++) {
                c.due("fall(0, 1) from MINUTE " + minute, x.fall(0, 1), 1);
                int grown = x.layer(0, minute + 1);
                c.dueTrue("what grew at MINUTE " + minute + " by air " + hour, (grown > 0) == (minute % 24 == hour));
                due += grown;
            }
            c.due("size(0, 0)", x.size(0, 0), due);
        }
    }

    private static void fallsSoMany() {
        c.by(25, "A FLAKE FALLS n (0 to 24) MINUTES: how many it grew (it ends at MINUTE 60, too). BAD.");
        FlakeArms x = new FlakeArms();
        x.growth(0, 1);
        c.due("fall(0, 0)", x.fall(0, 0), 0);
        c.due("size(0, 4)", x.size(0, 4), 0);
        c.due("fall(0, 1)", x.fall(0, 1), 1);
        c.due("size(0, 0)", x.size(0, 0), 7);
        for (int n : new int[] {-1, 25, MIN, MAX}) {
            c.due("fall(0, " + n + ")", x.fall(0, n), -1);
        }
        for (int f : NONE_OF_FLAKES) {
            c.due("fall(" + f + ", 1)", x.fall(f, 1), -1);
        }
        c.due("size(0, 4)", x.size(0, 4), 1);
        c.due("fall(0, 24)", x.fall(0, 24), 24);
        c.due("fall(0, 23)", x.fall(0, 23), 23);
        c.due("fall(0, 11)", x.fall(0, 11), 11);
        c.due("size(0, 4)", x.size(0, 4), 59);
        x.copy(1, 0);
        c.due("fall(0, 1)", x.fall(0, 1), 1);
        c.due("fall(0, 1) at MINUTE 60", x.fall(0, 1), 0);
        c.due("fall(0, 0) at MINUTE 60", x.fall(0, 0), 0);
        c.due("fall(0, 24) at MINUTE 60", x.fall(0, 24), 0);
        c.due("fall(0, 25) at MINUTE 60", x.fall(0, 25), -1);
        c.due("fall(1, 2) from MINUTE 59", x.fall(1, 2), 1);
        c.due("size(1, 4)", x.size(1, 4), 60);
    }

    private static void fallEnds() {
        c.by(25, "it grows by the GROWTH of it in that air; it ends, if there is no such GROWTH.");
        FlakeArms x = new FlakeArms();
        c.due("fall(0, 3) without GROWTHS", x.fall(0, 3), 0);
        Checks.law(x, "use 5; use 0 if minute < 2; use 1 if minute = 2 and size > 7;");
        x.growth(0, 1);
        c.due("fall(0, 24) to MINUTE 2", x.fall(0, 24), 2);
        c.due("fall(0, 24) without GROWTH 1", x.fall(0, 24), 0);
        x.growth(0, 0);
        c.due("fall(0, 24) to MINUTE 3", x.fall(0, 24), 1);
        x.growth(0, 2);
        x.growth(0, 2);
        x.growth(0, 2);
        c.due("fall(0, 24) without GROWTH 5", x.fall(0, 24), 0);
        c.due("size(0, 4)", x.size(0, 4), 3);
        c.due("growth(1, 0)", x.growth(1, 0), 5);
        c.due("fall(0, 24) by GROWTH 5", x.fall(0, 24), 24);
        // By MISS too, and z goes on.
        x.miss(4);
        x.seed(5);
        c.due("fall(1, 2) with MISS", x.fall(1, 2), 2);
        c.due("size(1, 0)", x.size(1, 0), 1);
        int z = 5;
        for (int i = 0; i < 12; i++) {
            z = next(z);
        }
        c.due("seed(0)", x.seed(0), z);
    }
}
