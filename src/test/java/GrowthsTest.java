/** Promises 15 to 22 and 25: GROWTHS, MISS, airs, falling. */
public final class GrowthsTest {
    private static final Checks c = new Checks();

    public static void main(String[] args) {
        growth();
        growthOf();
        wouldBe();
        kinds();
        grow();
        allAtOnce();
        miss();
        seed();
        air();
        fall();
        c.end();
    }

    private static void growth() {
        FlakeArms x = new FlakeArms();
        c.due(15, "growth(6, 0)", x.growth(6, 0), -1);
        c.due(15, "growth(-1, 0)", x.growth(-1, 0), -1);
        c.due(15, "growth(0, 64)", x.growth(0, 64), -1);
        c.due(15, "growth(0, -1)", x.growth(0, -1), -1);
        for (int i = 0; i < 6; i++) {
            c.due(15, "growth(" + i + ", " + (i * 12) + ")", x.growth(i, i * 12), i);
        }
        c.due(15, "growth(0, 0)", x.growth(0, 0), -2);
        c.due(15, "growth(0, 64)", x.growth(0, 64), -1);
        c.due(15, "many(0)", x.many(0), 6);
    }

    private static void growthOf() {
        FlakeArms x = new FlakeArms();
        c.due(16, "growthOf(0, 0)", x.growthOf(0, 0), -1);
        for (int kind = 0; kind < 6; kind++) {
            x.growth(kind, 63 - kind);
        }
        for (int kind = 0; kind < 6; kind++) {
            c.due(16, "growthOf(" + kind + ", 0)", x.growthOf(kind, 0), kind);
            c.due(16, "growthOf(" + kind + ", 1)", x.growthOf(kind, 1), 63 - kind);
        }
        c.due(16, "growthOf(0, 2)", x.growthOf(0, 2), -1);
        c.due(16, "growthOf(0, -1)", x.growthOf(0, -1), -1);
        c.due(16, "growthOf(6, 0)", x.growthOf(6, 0), -1);
        c.due(16, "growthOf(-1, 0)", x.growthOf(-1, 0), -1);
    }

    private static void wouldBe() {
        FlakeArms x = new FlakeArms();
        x.growth(0, 1);
        c.due(17, "wouldBe(0, 0)", x.wouldBe(0, 0), 6);
        c.due(17, "size(0, 0)", x.size(0, 0), 1);
        x.miss(4);
        c.due(17, "wouldBe(0, 0) with MISS", x.wouldBe(0, 0), 6);
        c.due(17, "seed(1)", x.seed(1), 1);
        c.due(17, "wouldBe(0, 1)", x.wouldBe(0, 1), -1);
        c.due(17, "wouldBe(0, -1)", x.wouldBe(0, -1), -1);
        c.due(17, "wouldBe(4, 0)", x.wouldBe(4, 0), -1);
        for (int i = 0; i < 60; i++) {
            x.grow(0, 0);
        }
        c.due(17, "wouldBe(0, 0) at MINUTE 60", x.wouldBe(0, 0), 6);
    }

    /** Of a FLAKE (0, 0) and others beside (q, r): whether (q, r) would FREEZE by KIND and A. */
    private static void one(int kind, int a, int q, int r, int beside, int want) {
        FlakeArms x = new FlakeArms();
        int[][] towards = {{1, 0}, {0, 1}, {-1, 1}, {-1, 0}, {0, -1}, {1, -1}};
        x.freeze(0, 0, 0, false);
        for (int k = 0; k < 6; k++) {
            x.freeze(0, q + towards[k][0], r + towards[k][1], (beside >> k & 1) == 1);
        }
        x.growth(kind, a);
        x.grow(0, 0);
        int got = x.cell(0, q, r) == 1 ? 1 : 0;
        c.due(18, "KIND " + kind + " A " + a + " at " + q + ", " + r + " by " + beside, got, want);
    }

    private static void kinds() {
        for (int beside = 0; beside < 64; beside++) {
            int n = Integer.bitCount(beside);
            for (int bit = 0; bit < 6; bit++) {
                int plain = n == bit + 1 ? 1 : 0;
                int plated = n == bit + 1 || n >= 4 ? 1 : 0;
                int along = Integer.bitCount(beside & 9);
                one(0, 1 << bit, 2, 1, beside, plain);
                one(1, 1 << bit, 2, 1, beside, plated);
                one(2, 1 << bit, 2, 1, beside, along == bit + 1 ? 1 : 0);
                one(3, 1 << bit, 2, 1, beside, 0);
                one(4, 1 << bit, 2, 1, beside, 0);
                one(4, 1 << bit, 3, 1, beside, n == 1 ? 1 : 0);
                one(3, 1 << bit, 0, 2, beside, plated);
                one(3, 1 << bit, -3, 0, beside, plated);
                one(3, 1 << bit, 2, -2, beside, plated);
                one(4, 1 << bit, 2, -2, beside, plated);
                one(4, 1 << bit, 0, -3, beside, plated);
                one(5, 1 << bit, 0, -2, beside, plain);
                one(5, 1 << bit, -1, -2, beside, 0);
            }
            one(0, 63, 2, 1, beside, n > 0 ? 1 : 0);
            one(0, 0, 2, 1, beside, 0);
        }
    }

    private static void grow() {
        FlakeArms x = new FlakeArms();
        x.growth(0, 1);
        c.due(18, "grow(0, 0)", x.grow(0, 0), 6);
        c.due(18, "size(0, 4)", x.size(0, 4), 1);
        c.due(18, "cell(0, 0, 0)", x.cell(0, 0, 0), 0);
        c.due(18, "cell(0, 1, 0)", x.cell(0, 1, 0), 1);
        c.due(18, "grow(0, 0)", x.grow(0, 0), 6);
        c.due(18, "cell(0, 2, 0)", x.cell(0, 2, 0), 2);
        c.due(18, "cell(0, 1, 1)", x.cell(0, 1, 1), -9);
        c.due(18, "grow(0, 1)", x.grow(0, 1), -1);
        c.due(18, "grow(4, 0)", x.grow(4, 0), -1);
        for (int i = 2; i < 60; i++) {
            x.grow(0, 0);
        }
        c.due(18, "size(0, 4)", x.size(0, 4), 60);
        c.due(18, "grow(0, 0)", x.grow(0, 0), -4);
        c.due(18, "grow(0, 1)", x.grow(0, 1), -1);
        c.due(18, "size(0, 4)", x.size(0, 4), 60);
        c.due(18, "grow(1, 0)", x.grow(1, 0), 6);
    }

    /** A CELL that FREEZES counts for none of the same MINUTE: a row grows by one each. */
    private static void allAtOnce() {
        FlakeArms x = new FlakeArms();
        x.growth(2, 1);
        for (int i = 1; i <= 5; i++) {
            c.due(18, "grow(0, 0)", x.grow(0, 0), 2);
            c.due(18, "arm(0, 0)", x.arm(0, 0), i);
            c.due(18, "layer(0, " + i + ")", x.layer(0, i), 2);
        }
        c.due(18, "grow(0, 0)", x.grow(0, 0), 0);
        c.due(18, "size(0, 4)", x.size(0, 4), 6);
    }

    private static void miss() {
        FlakeArms x = new FlakeArms();
        x.growth(0, 1);
        c.due(19, "miss(5)", x.miss(5), -1);
        c.due(19, "miss(-1)", x.miss(-1), -1);
        c.due(19, "miss(2)", x.miss(2), 0);
        c.due(19, "miss(5)", x.miss(5), -1);
        c.due(19, "miss(3)", x.miss(3), 2);
        c.due(19, "miss(4)", x.miss(4), 3);
        c.due(19, "grow(0, 0)", x.grow(0, 0), 0);
        int z = 1;
        for (int i = 0; i < 6; i++) {
            z = z * 1103515245 + 12345;
        }
        c.due(19, "seed behind six", x.seed(1), z);
        for (int i = 0; i < 40; i++) {
            int m = 1 + i % 4;
            x.miss(m);
            x.begin(1);
            x.seed(-77 + 1000003 * i);
            x.grow(1, 0);
            // By r, then by q, is the order in which z goes on.
            int[][] order = {{0, -1}, {1, -1}, {-1, 0}, {1, 0}, {-1, 1}, {0, 1}};
            z = -77 + 1000003 * i;
            for (int[] at : order) {
                z = z * 1103515245 + 12345;
                int want = (z >>> 16) % 4 >= m ? 1 : -9;
                c.due(19, "cell(1, " + at[0] + ", " + at[1] + ") with MISS " + m, x.cell(1, at[0], at[1]), want);
            }
        }
        c.due(19, "miss(0)", x.miss(0), 4);
        x.begin(1);
        x.seed(9);
        c.due(19, "grow(1, 0)", x.grow(1, 0), 6);
        c.due(19, "seed without MISS", x.seed(0), 9);
    }

    private static void seed() {
        FlakeArms x = new FlakeArms();
        c.due(20, "seed(MIN)", x.seed(Integer.MIN_VALUE), 1);
        c.due(20, "seed(MAX)", x.seed(Integer.MAX_VALUE), Integer.MIN_VALUE);
        c.due(20, "seed(-1)", x.seed(-1), Integer.MAX_VALUE);
        c.due(20, "seed(0)", x.seed(0), -1);
    }

    private static void air() {
        FlakeArms x = new FlakeArms();
        c.due(21, "air(0, 9, 0)", x.air(0, 9, 0), 1);
        c.due(21, "air(23, 3, 9)", x.air(23, 3, 9), 1);
        c.due(21, "air(24, 0, 0)", x.air(24, 0, 0), -1);
        c.due(21, "air(-1, 0, 0)", x.air(-1, 0, 0), -1);
        c.due(21, "air(0, 10, 0)", x.air(0, 10, 0), -1);
        c.due(21, "air(0, -1, 0)", x.air(0, -1, 0), -1);
        c.due(21, "air(0, 0, 10)", x.air(0, 0, 10), -1);
        c.due(21, "air(0, 0, -1)", x.air(0, 0, -1), -1);
        c.due(22, "airOf(0, 0)", x.airOf(0, 0), 9);
        c.due(22, "airOf(0, 1)", x.airOf(0, 1), 0);
        c.due(22, "airOf(23, 0)", x.airOf(23, 0), 3);
        c.due(22, "airOf(23, 1)", x.airOf(23, 1), 9);
        c.due(22, "airOf(1, 0)", x.airOf(1, 0), 0);
        c.due(22, "airOf(24, 0)", x.airOf(24, 0), -1);
        c.due(22, "airOf(-1, 0)", x.airOf(-1, 0), -1);
        c.due(22, "airOf(0, 2)", x.airOf(0, 2), -1);
        c.due(22, "airOf(0, -1)", x.airOf(0, -1), -1);
    }

    private static void fall() {
        FlakeArms x = new FlakeArms();
        c.due(25, "fall(0, 5) without GROWTHS", x.fall(0, 5), 0);
        x.growth(0, 0);
        x.growth(0, 1);
        c.due(25, "fall(0, 24) without LAW", x.fall(0, 24), 24);
        c.due(25, "size(0, 0)", x.size(0, 0), 1);
        // The air of MINUTE 24 is that of 0 again.
        Checks.law(x, "use 1 if warm = 1; use 3 if wet = 8;");
        x.air(0, 1, 0);
        x.air(2, 0, 8);
        c.due(25, "fall(0, 10) up to a GROWTH that is none", x.fall(0, 10), 2);
        c.due(25, "size(0, 0)", x.size(0, 0), 7);
        c.due(25, "layer(0, 25)", x.layer(0, 25), 6);
        c.due(25, "size(0, 4)", x.size(0, 4), 26);
        c.due(25, "fall(0, 0)", x.fall(0, 0), 0);
        c.due(25, "fall(0, 25)", x.fall(0, 25), -1);
        c.due(25, "fall(0, -1)", x.fall(0, -1), -1);
        c.due(25, "fall(4, 0)", x.fall(4, 0), -1);
        x.air(2, 0, 0);
        c.due(25, "fall(0, 24)", x.fall(0, 24), 24);
        c.due(25, "fall(0, 24) to MINUTE 60", x.fall(0, 24), 10);
        c.due(25, "fall(0, 24) at MINUTE 60", x.fall(0, 24), 0);
        c.due(25, "size(0, 4)", x.size(0, 4), 60);
        x.miss(4);
        c.due(25, "fall(1, 1) with MISS", x.fall(1, 1), 1);
        c.due(25, "size(1, 0)", x.size(1, 0), 1);
    }
}
