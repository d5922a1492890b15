/** Promises 26 to 28: ODDS, FOUND, FORMS. */
public final class CameTest {
    private static final Checks c = new Checks();

    public static void main(String[] args) {
        odds();
        oddsOfSome();
        manyToFreeze();
        found();
        foundAgain();
        forms();
        c.end();
    }

    private static void oddsAre(FlakeArms x, int flake, int growth, long above, long below) {
        c.due(26, "odds(" + flake + ", " + growth + ", 0)", x.odds(flake, growth, 0), above);
        c.due(26, "odds(" + flake + ", " + growth + ", 1)", x.odds(flake, growth, 1), below);
    }

    private static void odds() {
        FlakeArms x = new FlakeArms();
        x.growth(0, 1);
        x.growth(2, 1);
        x.growth(0, 0);
        oddsAre(x, 0, 0, 1, 1);
        oddsAre(x, 0, 1, 0, 1);
        oddsAre(x, 0, 2, 1, 1);
        x.miss(1);
        oddsAre(x, 0, 0, (3 * 3 * 3 * 3 * 3 * 3 + 1) / 2, 2048);
        c.due(26, "size(0, 0)", x.size(0, 0), 1);
        c.due(26, "seed(1)", x.seed(1), 1);
        x.miss(2);
        oddsAre(x, 0, 0, 1, 32);
        oddsAre(x, 0, 1, 1, 4);
        oddsAre(x, 0, 2, 1, 1);
        x.miss(3);
        oddsAre(x, 0, 0, 365, 2048);
        oddsAre(x, 0, 1, 9, 16);
        x.miss(4);
        oddsAre(x, 0, 0, 1, 1);
        oddsAre(x, 0, 1, 1, 1);
        c.due(26, "odds(0, 0, 2)", x.odds(0, 0, 2), -1);
        c.due(26, "odds(0, 0, -1)", x.odds(0, 0, -1), -1);
        c.due(26, "odds(0, 3, 0)", x.odds(0, 3, 0), -1);
        c.due(26, "odds(4, 0, 0)", x.odds(4, 0, 0), -1);
        for (int i = 0; i < 60; i++) {
            x.grow(0, 2);
        }
        oddsAre(x, 0, 0, 1, 1);
    }

    /** Sixes of which some have ICE already. */
    private static void oddsOfSome() {
        FlakeArms x = new FlakeArms();
        x.growth(0, 63);
        x.growth(0, 4);
        x.miss(1);
        x.freeze(0, 1, 0, true);
        x.freeze(0, 0, 1, true);
        x.freeze(0, -1, 1, true);
        x.freeze(0, -1, 0, true);
        // (1, -1) and (0, -1) each have two beside them, (0, 0) and another: none by GROWTH 1.
        oddsAre(x, 0, 1, 0, 1);
        x.freeze(0, 0, -1, true);
        // (1, -1) has three beside it, and it alone FREEZES.
        c.due(26, "wouldBe(0, 1)", x.wouldBe(0, 1), 1);
        oddsAre(x, 0, 1, 3, 4);
        x.miss(4);
        oddsAre(x, 0, 1, 0, 1);
        // (0, 0) turns to itself: whatever it does, all stay alike.
        x.miss(3);
        x.freeze(0, 1, -1, true);
        x.freeze(0, 0, 0, false);
        FlakeArms y = new FlakeArms();
        y.growth(0, 32);
        y.freeze(0, 0, 0, false);
        int[][] ring = {{1, 0}, {0, 1}, {-1, 1}, {-1, 0}, {0, -1}, {1, -1}};
        for (int[] at : ring) {
            y.freeze(0, at[0], at[1], true);
        }
        y.miss(3);
        c.due(26, "wouldBe(0, 0)", y.wouldBe(0, 0), 1);
        oddsAre(y, 0, 0, 1, 1);
        // What is unlike already and can't be mended stays so.
        y.freeze(0, 5, 0, true);
        oddsAre(y, 0, 0, 0, 1);
    }

    private static void manyToFreeze() {
        FlakeArms x = new FlakeArms();
        x.growth(0, 63);
        x.growth(0, 1);
        x.grow(0, 0);
        x.grow(0, 0);
        x.grow(0, 0);
        x.grow(0, 0);
        c.due(26, "wouldBe(0, 0)", x.wouldBe(0, 0), 30);
        x.miss(2);
        // Five sixes, each by chance alike with 2 of 64.
        c.due(26, "odds(0, 0, 0)", x.odds(0, 0, 0), 1);
        c.due(26, "odds(0, 0, 1)", x.odds(0, 0, 1), 1L << 25);
        x.miss(1);
        long above = 1;
        for (int i = 0; i < 5; i++) {
            above *= 365;
        }
        c.due(26, "odds(0, 0, 0)", x.odds(0, 0, 0), above);
        c.due(26, "odds(0, 0, 1)", x.odds(0, 0, 1), 1L << 55);
        x.freeze(0, 0, 0, false);
        c.due(26, "wouldBe(0, 0)", x.wouldBe(0, 0), 31);
        c.due(26, "odds(0, 0, 0)", x.odds(0, 0, 0), -4);
        c.due(26, "odds(0, 0, 2)", x.odds(0, 0, 2), -1);
        // By the other GROWTH the six corners alone, each with one beside it.
        oddsAre(x, 0, 1, 365, 2048);
    }

    private static void foundIs(FlakeArms x, int flake, int minutes, int growths) {
        c.due(27, "found(" + flake + ", 0)", x.found(flake, 0), minutes);
        c.due(27, "found(" + flake + ", 1)", x.found(flake, 1), growths);
    }

    private static void found() {
        FlakeArms x = new FlakeArms();
        foundIs(x, 0, 0, 0);
        x.freeze(1, 0, 0, false);
        foundIs(x, 1, -3, -3);
        x.growth(2, 1);
        x.growth(0, 1);
        x.growth(5, 1);
        x.growth(0, 0);
        x.growth(0, 1);
        x.growth(0, 2);
        x.miss(4);
        // GROWTH 4 does the same as 1, and 3 nothing.
        x.begin(1);
        grow(x, 1, 4);
        foundIs(x, 1, 1, 1);
        c.due(27, "seed(1)", x.seed(1), 1);
        x.begin(1);
        grow(x, 1, 3);
        foundIs(x, 1, 0, 0);
        x.begin(1);
        grow(x, 1, 0);
        grow(x, 1, 3);
        grow(x, 1, 2);
        foundIs(x, 1, 2, 16);
        x.begin(1);
        grow(x, 1, 2);
        grow(x, 1, 0);
        grow(x, 1, 4);
        foundIs(x, 1, 3, 2 + 0 * 8 + 1 * 64);
        x.freeze(1, 5, 0, true);
        foundIs(x, 1, -3, -3);
        // Since when the CELLS have ICE counts nothing.
        x.begin(2);
        grow(x, 2, 3);
        x.freeze(2, 1, 0, true);
        grow(x, 2, 3);
        x.freeze(2, -1, 0, true);
        foundIs(x, 2, 1, 0);
        x.begin(2);
        for (int i = 0; i < 4; i++) {
            grow(x, 2, 0);
        }
        foundIs(x, 2, -3, -3);
        c.due(27, "found(0, 2)", x.found(0, 2), -1);
        c.due(27, "found(0, -1)", x.found(0, -1), -1);
        c.due(27, "found(4, 0)", x.found(4, 0), -1);
    }

    /** Each of the 216 ways of three MINUTES by six GROWTHS is as good as the one that is found. */
    private static void foundAgain() {
        int[] kinds = {4, 3, 5, 2, 1, 0};
        int[] as = {3, 2, 5, 1, 9, 1};
        for (int way = 0; way < 216; way++) {
            int[] growths = {way / 36, way / 6 % 6, way % 6};
            FlakeArms x = new FlakeArms();
            for (int i = 0; i < 6; i++) {
                x.growth(kinds[i], as[i]);
            }
            for (int g : growths) {
                x.grow(0, g);
            }
            int minutes = x.found(0, 0);
            int digits = x.found(0, 1);
            int read = 0;
            for (int i = 0; i < minutes; i++) {
                x.grow(1, digits >> 3 * i & 7);
                read = read * 6 + (digits >> 3 * i & 7);
            }
            c.due(27, "found MINUTES of way " + way, minutes >= 0 && minutes <= 3 ? 1 : 0, 1);
            c.due(27, "unlike what is found of way " + way, same(x), 1);
            c.due(27, "no earlier way than that of " + way, minutes < 3 || read <= way ? 1 : 0, 1);
        }
        FlakeArms y = new FlakeArms();
        y.growth(0, 1);
        for (int minutes = 0; minutes < 4; minutes++) {
            foundIs(y, 0, minutes, 0);
            y.grow(0, 0);
        }
        foundIs(y, 0, -3, -3);
        FlakeArms z = new FlakeArms();
        for (int i = 0; i < 5; i++) {
            z.growth(0, 0);
        }
        z.growth(0, 1);
        for (int minutes = 0; minutes < 4; minutes++) {
            foundIs(z, 0, minutes, new int[] {0, 5, 055, 0555}[minutes]);
            z.grow(0, 5);
        }
    }

    private static int same(FlakeArms x) {
        for (int q = -5; q <= 5; q++) {
            for (int r = -5; r <= 5; r++) {
                if ((x.cell(0, q, r) >= 0) != (x.cell(1, q, r) >= 0)) {
                    return 0;
                }
            }
        }
        return 1;
    }

    private static void grow(FlakeArms x, int flake, int growth) {
        int m = x.miss(0);
        x.grow(flake, growth);
        x.miss(m);
    }

    private static void forms() {
        FlakeArms x = new FlakeArms();
        c.due(28, "forms(0)", x.forms(0), 1);
        c.due(28, "forms(1)", x.forms(1), -3);
        c.due(28, "forms(3)", x.forms(3), -3);
        c.due(28, "forms(4)", x.forms(4), -1);
        c.due(28, "forms(-1)", x.forms(-1), -1);
        x.growth(0, 1);
        c.due(28, "forms(0)", x.forms(0), 1);
        c.due(28, "forms(1)", x.forms(1), 1);
        c.due(28, "forms(3)", x.forms(3), 1);
        x.growth(0, 0);
        x.miss(4);
        // By a MINUTE or none of the same: 2, 3, 4.
        c.due(28, "forms(1)", x.forms(1), 2);
        c.due(28, "forms(2)", x.forms(2), 3);
        c.due(28, "forms(3)", x.forms(3), 4);
        c.due(28, "forms(4)", x.forms(4), -1);
        x.growth(0, 1);
        c.due(28, "forms(3)", x.forms(3), 4);
        x.growth(2, 1);
        // The row of three, and one of five or the ring with two more, and so on.
        c.due(28, "forms(1)", x.forms(1), 3);
        x.freeze(0, 0, 0, false);
        c.due(28, "forms(1) of the beginning", x.forms(1), 3);
        c.due(28, "size(0, 0)", x.size(0, 0), 0);
        c.due(28, "seed(1)", x.seed(1), 1);
    }
}
