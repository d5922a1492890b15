import java.util.Random;

/** Runs of calls picked by a seeded generator; each answer is compared with NaiveFlakes'. */
public final class RandomRunsTest {
    private static final String[] WORDS = {"use", "pick", "if", "or", "and", "not", "warm", "wet", "size",
        "span", "edge", "minute", "(", ")", "<", "=", ">", ";", "0", "1", "5", "6", "42", "999", "1000", "0005",
        "x", "usee", "A", "\u00e9", " ", "  ", "\n"};
    private static final String[] NAMES = {"warm", "wet", "size", "span", "edge", "minute"};

    private final Random random;
    private final FlakeArms x = new FlakeArms();
    private final NaiveFlakes y = new NaiveFlakes();
    private final StringBuilder told = new StringBuilder();
    /** Numbers of calls, as one() and another() have them, that a run is made of. */
    private static final int[][] SORTS_OF_RUN = {
        {0, 1, 2, 2, 2, 3, 3, 3, 4, 5, 6, 6, 7, 8, 9, 10, 14, 14, 27, 27, 29, 29},
        {0, 2, 11, 12, 13, 14, 14, 14, 14, 15, 16, 17, 18, 19, 20, 21, 21, 5, 3, 22, 22},
        {0, 17, 17, 17, 19, 19, 19, 20, 20, 20, 21, 21, 2, 14, 39, 40, 38},
        {0, 0, 0, 14, 14, 14, 15, 22, 22, 22, 8, 41, 42, 42, 42, 2, 11},
        {23, 23, 24, 24, 25, 26, 26, 26, 14, 2, 0, 27},
        {28, 29, 29, 31, 31, 32, 32, 34, 34, 35, 35, 35, 35, 37, 37, 37, 38, 11, 39, 40, 27},
        {0, 1, 2, 3, 4, 5, 6, 7, 8, 9, 10, 11, 12, 13, 14, 15, 16, 17, 18, 19, 20, 21, 22, 23, 24, 25,
            26, 27, 28, 29, 30, 31, 32, 33, 34, 35, 36, 37, 38, 39, 40},
    };
    private final int[] calls;
    private final int textEvery;

    private RandomRunsTest(int seed) {
        random = new Random(seed);
        int sort = seed % SORTS_OF_RUN.length;
        calls = SORTS_OF_RUN[sort];
        textEvery = sort == 2 ? 20 : 150;
    }

    public static void main(String[] args) {
        int runs = args.length > 0 ? Integer.parseInt(args[0]) : 1400;
        int wrong = 0;
        for (int run = 0; run < runs && wrong < 5; run++) {
            wrong += new RandomRunsTest(run).run(run) ? 0 : 1;
        }
        System.out.println(runs + " runs, " + wrong + " not as due");
        if (wrong != 0) {
            System.exit(1);
        }
    }

    private boolean run(int seed) {
        String text = "";
        if (seed % 8 != 0 && !prepare()) {
            System.out.println("run " + seed + ":\n" + told);
            return false;
        }
        for (int i = 50; i < 512; i++) {
            if (text.isEmpty() && random.nextInt(textEvery) == 0) {
                text = text();
            }
            boolean same;
            if (!text.isEmpty()) {
                int n = Math.min(1 + random.nextInt(8), text.length());
                long eight = random.nextLong();
                for (int k = 0; k < n; k++) {
                    eight &= ~(0xffL << (8 * k));
                    eight |= (long) text.charAt(k) << (8 * k);
                }
                text = text.substring(n);
                same = same("feed(" + eight + "L, " + n + ")", x.feed(eight, n), y.feed(eight, n));
                if (text.isEmpty() && same) {
                    same = same("law()", x.law(), y.law());
                }
            } else {
                same = one();
            }
            if (!same) {
                System.out.println("run " + seed + ", call " + i + ":\n" + told);
                return false;
            }
        }
        return true;
    }

    /** Some GROWTHS, SHELVES and SHEETS to begin with. */
    private boolean prepare() {
        boolean same = true;
        for (int n = random.nextInt(7); n > 0 && same; n--) {
            int kind = random.nextInt(6);
            int a = random.nextInt(64) & (random.nextBoolean() ? 7 : 63);
            same = same("growth(" + kind + ", " + a + ")", x.growth(kind, a), y.growth(kind, a));
        }
        for (int k = 0; k < 4 && same; k++) {
            int g = below(6);
            int sort = random.nextInt(2) == 0 ? 2 : random.nextInt(4);
            int n = random.nextInt(16);
            same = same("shelf(" + k + ", 0, " + g + ")", x.shelf(k, 0, g), y.shelf(k, 0, g))
                && same("sheet(" + k + ", " + sort + ", " + n + ")", x.sheet(k, sort, n), y.sheet(k, sort, n));
        }
        for (int i = random.nextInt(25); i > 0 && same; i--) {
            int k = random.nextInt(4);
            int place = random.nextInt(11);
            int v = random.nextInt() | random.nextInt();
            same = same("put(" + k + ", " + place + ", " + v + ")", x.put(k, place, v), y.put(k, place, v));
        }
        return same;
    }

    private boolean same(String call, long got, long want) {
        told.append(call).append(" = ").append(got).append('\n');
        if (got != want) {
            told.append("due is ").append(want).append('\n');
        }
        return got == want;
    }

    /** Mostly 0 to n - 1, now and then another number. */
    private int below(int n) {
        int sort = random.nextInt(60);
        if (sort == 0) return -1;
        if (sort == 1) return n;
        if (sort == 2) return random.nextInt();
        return random.nextInt(n);
    }

    private int number() {
        int sort = random.nextInt(8);
        if (sort == 0) return random.nextInt();
        if (sort == 1) return Integer.MIN_VALUE + random.nextInt(3);
        if (sort == 2) return Integer.MAX_VALUE - random.nextInt(3);
        return random.nextInt(200) - 100;
    }

    private String text() {
        int sort = random.nextInt(8);
        StringBuilder b = new StringBuilder();
        if (sort == 0) {
            for (int i = random.nextInt(30); i >= 0; i--) {
                b.append(WORDS[random.nextInt(WORDS.length)]).append(random.nextInt(3) == 0 ? "" : " ");
            }
        } else {
            for (int i = random.nextInt(sort == 1 ? 11 : 5); i > 0; i--) {
                if (random.nextInt(3) > 0) {
                    b.append("use ").append(random.nextInt(6));
                    if (random.nextInt(3) > 0) b.append(" if ").append(cond(0));
                } else {
                    b.append("pick if ").append(cond(0));
                }
                b.append(random.nextBoolean() ? ";" : " ; ");
            }
        }
        if (sort == 2 && b.length() > 0) {
            int at = random.nextInt(b.length());
            String word = WORDS[random.nextInt(WORDS.length)];
            b.replace(at, Math.min(b.length(), at + random.nextInt(4)), word);
        }
        if (sort == 3 && b.length() > 0) {
            b.setLength(random.nextInt(b.length()));
        }
        if (sort == 4) {
            for (int at = b.indexOf(" "); at >= 0; at = b.indexOf(" ", at + 1)) {
                boolean needed = at > 0 && at + 1 < b.length() && Character.isLetter(b.charAt(at - 1))
                    && Character.isLetter(b.charAt(at + 1));
                if (!needed) b.deleteCharAt(at);
            }
        }
        return b.toString();
    }

    private String cond(int open) {
        StringBuilder b = new StringBuilder();
        for (int ones = 1 + random.nextInt(3); ones > 0; ones--) {
            for (int nots = random.nextInt(6); nots > 3; nots--) b.append("not ");
            if (open < 4 && random.nextInt(4) == 0) {
                b.append("(").append(cond(open + 1)).append(")");
            } else {
                b.append(value()).append(" ").append("<=>".charAt(random.nextInt(3))).append(" ").append(value());
            }
            if (ones > 1) b.append(random.nextBoolean() ? " and " : " or ");
        }
        return b.toString();
    }

    private String value() {
        int sort = random.nextInt(5);
        if (sort == 0) return "" + random.nextInt(1000);
        if (sort == 1) return "" + random.nextInt(12);
        return NAMES[random.nextInt(6)];
    }

    private boolean one() {
        int a = below(4);
        int g = below(Math.max(1, y.now.growths.size()));
        int i = below(6);
        int v = number();
        boolean is = random.nextBoolean();
        int q = below(11) - 5;
        int r = below(11) - 5;
        int call = calls[random.nextInt(calls.length)];
        switch (call) {
            case 0: return same("begin(" + a + ")", x.begin(a), y.begin(a));
            case 1: return same("cell(" + a + ", " + q + ", " + r + ")", x.cell(a, q, r), y.cell(a, q, r));
            case 2: return same("freeze(" + a + ", " + q + ", " + r + ", " + is + ")",
                x.freeze(a, q, r, is), y.freeze(a, q, r, is));
            case 3: { int w = below(5); return same("size(" + a + ", " + w + ")", x.size(a, w), y.size(a, w)); }
            case 4: return same("arm(" + a + ", " + i + ")", x.arm(a, i), y.arm(a, i));
            case 5: { int m = is ? below(61) : below(6);
                return same("layer(" + a + ", " + m + ")", x.layer(a, m), y.layer(a, m)); }
            case 6: return same("unlike(" + a + ", " + i + ", " + is + ")", x.unlike(a, i, is), y.unlike(a, i, is));
            case 7: { int b = below(4); return same("apart(" + a + ", " + b + ")", x.apart(a, b), y.apart(a, b)); }
            case 8: { int b = below(4); return same("copy(" + a + ", " + b + ")", x.copy(a, b), y.copy(a, b)); }
            case 9: { int b = below(4); return same("meet(" + a + ", " + b + ", " + i + ")",
                x.meet(a, b, i), y.meet(a, b, i)); }
            case 10: return same("breaks(" + a + ", " + i + ")", x.breaks(a, i), y.breaks(a, i));
            case 11: { int k = below(6); int w = below(64);
                return same("growth(" + k + ", " + w + ")", x.growth(k, w), y.growth(k, w)); }
            case 12: { int w = below(2); return same("growthOf(" + g + ", " + w + ")", x.growthOf(g, w), y.growthOf(g, w)); }
            case 13: return same("wouldBe(" + a + ", " + g + ")", x.wouldBe(a, g), y.wouldBe(a, g));
            case 14: return same("grow(" + a + ", " + g + ")", x.grow(a, g), y.grow(a, g));
            case 15: { int m = random.nextInt(3) == 0 ? below(5) : below(1);
                return same("miss(" + m + ")", x.miss(m), y.miss(m)); }
            case 16: return same("seed(" + v + ")", x.seed(v), y.seed(v));
            case 17: { int m = below(24); int warm = below(10); int wet = below(10);
                return same("air(" + m + ", " + warm + ", " + wet + ")", x.air(m, warm, wet), y.air(m, warm, wet)); }
            case 18: { int m = below(24); int w = below(2);
                return same("airOf(" + m + ", " + w + ")", x.airOf(m, w), y.airOf(m, w)); }
            case 19: { int warm = below(10); int wet = below(10);
                return same("picks(" + a + ", " + warm + ", " + wet + ")", x.picks(a, warm, wet), y.picks(a, warm, wet)); }
            case 20: return same("picked(" + a + ")", x.picked(a), y.picked(a));
            case 21: { int n = is ? below(25) : below(4); return same("fall(" + a + ", " + n + ")", x.fall(a, n), y.fall(a, n)); }
            default: return another(call, a, g, i, v);
        }
    }

    private boolean another(int call, int a, int g, int i, int v) {
        switch (call) {
            case 22: { int p = below(2); return same("odds(" + a + ", " + g + ", " + p + ")", x.odds(a, g, p), y.odds(a, g, p)); }
            case 23: return same("prove(" + a + ")", x.prove(a), y.prove(a));
            case 24: { int w = below(2); return same("row(" + i + ", " + w + ")", x.row(i, w), y.row(i, w)); }
            case 25: { int w = below(2); return same("alterRow(" + i + ", " + w + ", " + (v & 15) + ")",
                x.alterRow(i, w, v & 15), y.alterRow(i, w, v & 15)); }
            case 26: return same("judge(" + a + ")", x.judge(a), y.judge(a));
            case 27: { int s = below(4); return same("copies(" + a + ", " + s + ")", x.copies(a, s), y.copies(a, s)); }
            case 28: { int s = below(4); int sort = below(5) - 1; int n = below(41);
                return same("sheet(" + s + ", " + sort + ", " + n + ")", x.sheet(s, sort, n), y.sheet(s, sort, n)); }
            case 29: case 30: { int s = below(4); int p = below(14);
                return same("put(" + s + ", " + p + ", " + v + ")", x.put(s, p, v), y.put(s, p, v)); }
            case 31: { int s = below(4); int sort = below(4); int p = below(14);
                return same("item(" + s + ", " + sort + ", " + p + ")", x.item(s, sort, p), y.item(s, sort, p)); }
            case 32: case 33: { int w = random.nextInt(3) > 0 ? 0 : below(3);
                return same("shelf(" + a + ", " + w + ", " + i + ")", x.shelf(a, w, i), y.shelf(a, w, i)); }
            case 34: { int as = below(14); return same("taken(" + a + ", " + as + ")", x.taken(a, as), y.taken(a, as)); }
            case 35: case 36: { int act = below(4);
                return same("act(" + a + ", " + act + ", " + v + ")", x.act(a, act, v), y.act(a, act, v)); }
            case 37: { int t = below(11); return same("trace(" + t + ")", x.trace(t), y.trace(t)); }
            case 38: { int w = below(5); return same("many(" + w + ")", x.many(w), y.many(w)); }
            case 39: return random.nextInt(4) > 0 || same("keep()", x.keep(), y.keep());
            case 40: return random.nextInt(4) > 0 || same("again()", x.again(), y.again());
            case 41: { int n = below(4); return same("forms(" + n + ")", x.forms(n), y.forms(n)); }
            default: { int w = below(2); return same("found(" + a + ", " + w + ")", x.found(a, w), y.found(a, w)); }
        }
    }
}
