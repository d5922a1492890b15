import java.util.ArrayList;
import java.util.HashMap;
import java.util.HashSet;
import java.util.LinkedHashMap;
import java.util.List;
import java.util.Map;
import java.util.Set;
import java.util.TreeSet;

/** Promises 26 to 28: each sentence that names a boundary case. */
public final class BoundsCameTest {
    private static final int MIN = Integer.MIN_VALUE;
    private static final int MAX = Integer.MAX_VALUE;
    private static final Checks c = new Checks();

    public static void main(String[] args) {
        parts();
        noCommonDivisor();
        thirtyToFreeze();
        lowestOdds();
        eachApart();
        byOneTurn();
        byMiss();
        oddsRefused();
        found0To3();
        fewestMinutes();
        firstByGrowths();
        whateverTheirMinutes();
        foundWithoutMiss();
        foundDigits();
        foundRefused();
        forms0To3();
        unlikeInSomeCell();
        formsOfTheBeginning();
        formsRefused();
        c.end();
    }

    private static void odds(FlakeArms x, int flake, int growth, long above, long below) {
        c.due("odds(" + flake + ", " + growth + ", 0)", x.odds(flake, growth, 0), above);
        c.due("odds(" + flake + ", " + growth + ", 1)", x.odds(flake, growth, 1), below);
    }

    private static long power(long base, int n) {
        return n == 0 ? 1 : base * power(base, n - 1);
    }

    private static void parts() {
        c.by(26, "A part of a fraction: 0 above the line, 1 below it");
        FlakeArms x = new FlakeArms();
        x.growth(0, 1);
        x.miss(2);
        c.due("odds(0, 0, 0)", x.odds(0, 0, 0), 1);
        c.due("odds(0, 0, 1)", x.odds(0, 0, 1), 32);
        for (int part : new int[] {-1, 2, MIN, MAX}) {
            c.due("odds(0, 0, " + part + ")", x.odds(0, 0, part), -1);
        }
    }

    private static void noCommonDivisor() {
        c.by(26, "without a common divisor, below above 0 (0 is 0 by 1).");
        FlakeArms x = new FlakeArms();
        x.growth(0, 1);
        x.growth(2, 1);
        x.growth(0, 0);
        for (int m = 0; m <= 4; m++) {
            x.miss(m);
            // Six CELLS: all have ICE behind the MINUTE, or none.
            long above = power(4 - m, 6) + power(m, 6);
            long below = 4096;
            while (above % 2 == 0 && below > 1) {
                above /= 2;
                below /= 2;
            }
            odds(x, 0, 0, above, below);
            // Two of six: none has ICE then.
            odds(x, 0, 1, new long[] {0, 1, 1, 9, 1}[m], new long[] {1, 16, 4, 16, 1}[m]);
            // None at all: it is as it was.
            odds(x, 0, 2, 1, 1);
            // What is unlike and stays so.
            x.freeze(1, 5, 0, true);
            odds(x, 1, 2, 0, 1);
        }
        // The same of none and of all.
        Ice.put(x, 2, new TreeSet<>());
        Ice.put(x, 3, Ice.all());
        for (int m = 0; m <= 4; m++) {
            x.miss(m);
            odds(x, 2, 0, 1, 1);
            odds(x, 3, 0, 1, 1);
        }
    }

    private static void thirtyToFreeze() {
        c.by(26, "STATE: more than 30 CELLS would FREEZE.");
        FlakeArms x = new FlakeArms();
        x.growth(0, 63);
        Set<NaiveFlakes.At> inner = Ice.all();
        inner.removeAll(Ice.ring(5));
        Ice.put(x, 0, inner);
        inner.remove(Ice.at(2, -1));
        Ice.put(x, 1, inner);
        inner.remove(Ice.at(1, 1));
        Ice.put(x, 2, inner);
        c.due("wouldBe(0, 0)", x.wouldBe(0, 0), 30);
        c.due("wouldBe(1, 0)", x.wouldBe(1, 0), 31);
        c.due("wouldBe(2, 0)", x.wouldBe(2, 0), 32);
        for (int m = 0; m <= 4; m++) {
            x.miss(m);
            long[] above = {1, power(365, 5), 1, power(365, 5), 1};
            long[] below = {1, 1L << 55, 1L << 25, 1L << 55, 1};
            odds(x, 0, 0, above[m], below[m]);
            odds(x, 1, 0, -4, -4);
            odds(x, 2, 0, -4, -4);
        }
        // 31 of which one is (0, 0), which no turn moves.
        inner.add(Ice.at(2, -1));
        inner.add(Ice.at(1, 1));
        inner.remove(Ice.at(0, 0));
        Ice.put(x, 3, inner);
        odds(x, 3, 0, -4, -4);
    }

    /** 30 CELLS of which all must be missed: as far below as a fraction may go. */
    private static void lowestOdds() {
        c.by(26, "with what odds, behind one MINUTE more");
        FlakeArms x = new FlakeArms();
        x.growth(5, 63);
        Set<NaiveFlakes.At> ice = Ice.all();
        ice.removeIf(cell -> Math.floorMod(cell.q() - cell.r(), 3) != 0);
        NaiveFlakes.At corner = Ice.at(5, 0);
        for (int i = 0; i < 6; i++) {
            ice.add(corner);
            corner = corner.turned();
        }
        Ice.put(x, 0, ice);
        c.due("unlike(0, 1, false)", x.unlike(0, 1, false), 0);
        c.due("wouldBe(0, 0)", x.wouldBe(0, 0), 30);
        for (int m = 0; m <= 4; m++) {
            x.miss(m);
            odds(x, 0, 0, new long[] {0, 1, 1, power(3, 30), 1}[m], new long[] {1, 1L << 60, 1L << 30, 1L << 60, 1}[m]);
        }
    }

    /** Sixes with some ICE: what is left of them must FREEZE, all of it. */
    private static void eachApart() {
        c.by(26, "(by MISS, each CELL that would FREEZE apart from the others)");
        for (int left = 0; left <= 6; left++) {
            FlakeArms x = new FlakeArms();
            x.growth(0, 63);
            x.growth(3, 63);
            Set<NaiveFlakes.At> ice = Ice.allBut();
            NaiveFlakes.At cell = Ice.at(3, -1);
            for (int i = 0; i < left; i++) {
                ice.remove(cell);
                cell = cell.turned();
            }
            Ice.put(x, 0, ice);
            for (int m = 0; m <= 4; m++) {
                x.miss(m);
                long above = power(4 - m, left) + (left == 6 ? power(m, 6) : 0);
                long below = power(4, left);
                while (below > 1 && above % 2 == 0) {
                    above /= 2;
                    below /= 2;
                }
                odds(x, 0, 0, above, below);
                // Off the arms nothing FREEZES by GROWTH 1: with a gap it is unlike, with six it isn't.
                odds(x, 0, 1, left % 6 == 0 ? 1 : 0, 1);
            }
        }
    }

    private static void byOneTurn() {
        c.by(26, "a FLAKE would be UNLIKE by one turn in no CELL.");
        FlakeArms x = new FlakeArms();
        x.growth(0, 0);
        x.growth(0, 32);
        // Alike by two turns, or by three, isn't enough; alike by mirrors counts nothing.
        NaiveFlakes.At cell = Ice.at(4, -1);
        for (int i = 0; i < 6; i++) {
            for (int f = 0; f < 3; f++) {
                if (f == 0 || i % (f + 1) == 0) {
                    x.freeze(f, cell.q(), cell.r(), true);
                }
            }
            cell = cell.turned();
        }
        x.freeze(3, 2, 2, true);
        c.due("unlike(0, 0, true)", x.unlike(0, 0, true), 12);
        c.due("unlike(1, 2, false)", x.unlike(1, 2, false), 0);
        c.due("unlike(2, 3, false)", x.unlike(2, 3, false), 0);
        c.due("unlike(3, 0, true)", x.unlike(3, 0, true), 0);
        for (int m = 0; m <= 4; m++) {
            x.miss(m);
            odds(x, 0, 0, 1, 1);
            odds(x, 1, 0, 0, 1);
            odds(x, 2, 0, 0, 1);
            odds(x, 3, 0, 0, 1);
        }
        // (0, 0) may FREEZE or not.
        Ice.put(x, 0, Ice.allBut(Ice.at(0, 0)));
        for (int m = 0; m <= 4; m++) {
            x.miss(m);
            c.due("wouldBe(0, 1)", x.wouldBe(0, 1), 1);
            odds(x, 0, 1, 1, 1);
        }
    }

    private static void byMiss() {
        c.by(26, "ODDS of staying alike, by a GROWTH");
        FlakeArms x = new FlakeArms();
        x.growth(0, 1);
        x.growth(0, 0);
        x.miss(3);
        x.seed(77);
        Ice.passTo(x, 0, 60, 1);
        // At MINUTE 60, too; and nothing becomes another.
        odds(x, 0, 0, 365, 2048);
        c.due("size(0, 0)", x.size(0, 0), 1);
        c.due("size(0, 4)", x.size(0, 4), 60);
        c.due("seed(1)", x.seed(1), 77);
        c.due("miss(0)", x.miss(0), 3);
    }

    private static void oddsRefused() {
        c.by(26, "BAD; STATE: more than 30 CELLS would FREEZE.");
        FlakeArms x = new FlakeArms();
        c.due("odds(0, 0, 0) without GROWTHS", x.odds(0, 0, 0), -1);
        x.growth(0, 63);
        Set<NaiveFlakes.At> third = Ice.all();
        third.removeIf(cell -> Math.floorMod(cell.q() - cell.r(), 3) != 0);
        Ice.put(x, 0, third);
        c.due("odds(0, 0, 0)", x.odds(0, 0, 0), -4);
        c.due("odds(0, 0, 1)", x.odds(0, 0, 1), -4);
        for (int part : new int[] {-1, 2, MIN, MAX}) {
            c.due("odds(0, 0, " + part + ")", x.odds(0, 0, part), -1);
        }
        for (int g : new int[] {-1, 1, 6, MIN, MAX}) {
            c.due("odds(0, " + g + ", 0)", x.odds(0, g, 0), -1);
        }
        for (int f : new int[] {-1, 4, MIN, MAX}) {
            c.due("odds(" + f + ", 0, 0)", x.odds(f, 0, 0), -1);
        }
    }

    private static void found(FlakeArms x, int flake, int minutes, int digits) {
        c.due("found(" + flake + ", 0)", x.found(flake, 0), minutes);
        c.due("found(" + flake + ", 1)", x.found(flake, 1), digits);
    }

    private static void found0To3() {
        c.by(27, "FOUND: the fewest MINUTES (0 to 3) of GROWTHS (without MISS) by which the beginning becomes the FLAKE");
        for (int kind = 0; kind < 3; kind++) {
            FlakeArms x = new FlakeArms();
            found(x, 0, 0, 0);
            x.freeze(0, 1, 0, true);
            found(x, 0, -3, -3);
            x.begin(0);
            x.growth(kind, 1);
            for (int minutes = 0; minutes <= 3; minutes++) {
                found(x, 0, minutes, 0);
                x.grow(0, 0);
            }
            found(x, 0, -3, -3);
            x.grow(0, 0);
            found(x, 0, -3, -3);
        }
        FlakeArms x = new FlakeArms();
        for (int i = 0; i < 5; i++) {
            x.growth(0, 0);
        }
        x.growth(2, 1);
        for (int minutes = 0; minutes <= 3; minutes++) {
            found(x, 0, minutes, new int[] {0, 5, 055, 0555}[minutes]);
            x.grow(0, 5);
        }
        found(x, 0, -3, -3);
        Ice.put(x, 1, new TreeSet<>());
        found(x, 1, -3, -3);
        Ice.put(x, 1, Ice.all());
        found(x, 1, -3, -3);
        // One CELL more or less, the first, the last, or one in between, isn't the same.
        x.begin(0);
        x.grow(0, 5);
        for (NaiveFlakes.At cell : new NaiveFlakes.At[] {Ice.at(0, -5), Ice.at(0, 5), Ice.at(0, 0), Ice.at(-4, 2)}) {
            boolean has = x.cell(0, cell.q(), cell.r()) >= 0;
            x.freeze(0, cell.q(), cell.r(), !has);
            found(x, 0, -3, -3);
            x.freeze(0, cell.q(), cell.r(), has);
            found(x, 0, 1, 5);
        }
    }

    private static void fewestMinutes() {
        c.by(27, "the fewest MINUTES (0 to 3)");
        FlakeArms x = new FlakeArms();
        x.growth(0, 0);
        x.growth(0, 1);
        // Whatever MINUTES it had, those by which nothing FREEZES are none of the fewest.
        for (int i = 0; i < 20; i++) {
            x.grow(0, 0);
        }
        found(x, 0, 0, 0);
        x.grow(0, 1);
        found(x, 0, 1, 1);
        x.grow(0, 0);
        x.grow(0, 1);
        found(x, 0, 2, 011);
        x.grow(0, 0);
        x.grow(0, 1);
        found(x, 0, 3, 0111);
    }

    /** Of all ways of up to three MINUTES, the first one to each FLAKE. */
    private static void firstByGrowths() {
        c.by(27, "of several as many the first by GROWTHS (that of the first MINUTE counts most).");
        int[][] kinds = {{0, 0, 2, 1}, {0, 1, 2, 3, 4, 5}, {5, 2, 0, 2, 5, 0}};
        int[][] as = {{1, 1, 1, 1}, {4, 3, 1, 1, 3, 1}, {1, 1, 0, 3, 3, 2}};
        for (int i = 0; i < kinds.length; i++) {
            Map<Set<NaiveFlakes.At>, String> ways = new LinkedHashMap<>();
            List<String> last = List.of("");
            Map<String, Set<NaiveFlakes.At>> formOf = new HashMap<>();
            formOf.put("", Set.of(Ice.at(0, 0)));
            ways.put(formOf.get(""), "");
            int several = 0;
            for (int minutes = 1; minutes <= 3; minutes++) {
                List<String> longer = new ArrayList<>();
                for (String way : last) {
                    for (int k = 0; k < kinds[i].length; k++) {
                        formOf.put(way + k, grown(formOf.get(way), kinds[i][k], as[i][k]));
                        several += ways.putIfAbsent(formOf.get(way + k), way + k) == null ? 0 : 1;
                        longer.add(way + k);
                    }
                }
                last = longer;
            }
            c.dueTrue("some FLAKES come in several ways", several > 0);
            for (Map.Entry<Set<NaiveFlakes.At>, String> form : ways.entrySet()) {
                FlakeArms x = new FlakeArms();
                for (int k = 0; k < kinds[i].length; k++) {
                    x.growth(kinds[i][k], as[i][k]);
                }
                Ice.put(x, 2, form.getKey());
                String way = form.getValue();
                int digits = 0;
                for (int minute = 0; minute < way.length(); minute++) {
                    digits |= (way.charAt(minute) - '0') << 3 * minute;
                }
                found(x, 2, way.length(), digits);
            }
        }
    }

    private static Set<NaiveFlakes.At> grown(Set<NaiveFlakes.At> form, int kind, int a) {
        Set<NaiveFlakes.At> grown = new HashSet<>(form);
        for (NaiveFlakes.At cell : NaiveFlakes.CELLS) {
            if (!form.contains(cell) && NaiveFlakes.freezes(kind, a, cell, form)) {
                grown.add(cell);
            }
        }
        return grown;
    }

    private static void whateverTheirMinutes() {
        c.by(27, "(its CELLS with ICE, whatever their MINUTES)");
        FlakeArms x = new FlakeArms();
        x.growth(0, 1);
        x.growth(0, 0);
        Ice.passTo(x, 0, 60, 1);
        found(x, 0, 0, 0);
        for (NaiveFlakes.At cell : Ice.beside(Ice.at(0, 0))) {
            found(x, 0, cell.equals(Ice.at(0, -1)) ? 0 : -3, cell.equals(Ice.at(0, -1)) ? 0 : -3);
            x.freeze(0, cell.q(), cell.r(), true);
        }
        found(x, 0, 1, 0);
        c.due("layer(0, 60)", x.layer(0, 60), 6);
        x.freeze(0, 0, 0, false);
        found(x, 0, -3, -3);
        x.freeze(0, 0, 0, true);
        found(x, 0, 1, 0);
    }

    private static void foundWithoutMiss() {
        c.by(27, "of GROWTHS (without MISS) by which the beginning becomes the FLAKE");
        FlakeArms x = new FlakeArms();
        x.growth(0, 1);
        x.grow(0, 0);
        x.grow(0, 0);
        for (int m = 0; m <= 4; m++) {
            x.miss(m);
            found(x, 0, 2, 0);
        }
        c.due("seed(1)", x.seed(1), 1);
        // All missed, it is at the beginning still.
        x.grow(1, 0);
        found(x, 1, 0, 0);
        c.due("size(0, 4)", x.size(0, 4), 2);
    }

    private static void foundDigits() {
        c.by(27, "their GROWTHS as digits to the base 8, the first the lowest (1)");
        FlakeArms x = new FlakeArms();
        int[] kinds = {0, 5, 2, 3, 4, 1};
        for (int i = 0; i < 6; i++) {
            x.growth(kinds[i], i == 0 ? 3 : 1);
        }
        x.grow(0, 5);
        found(x, 0, 1, 0);
        x.begin(0);
        x.grow(0, 2);
        x.grow(0, 1);
        found(x, 0, 2, 2 + 1 * 8);
        x.begin(0);
        x.grow(0, 1);
        x.grow(0, 2);
        found(x, 0, 2, 1 + 2 * 8);
        x.grow(0, 1);
        found(x, 0, 3, 1 + 2 * 8 + 1 * 64);
        // Nothing comes along by itself: a FLAKE that changes is another one.
        x.begin(0);
        found(x, 0, 0, 0);
    }

    private static void foundRefused() {
        c.by(27, "FOUND: how many MINUTES (what 0)");
        FlakeArms x = new FlakeArms();
        x.freeze(3, 5, 0, true);
        for (int what : new int[] {-1, 2, MIN, MAX}) {
            c.due("found(0, " + what + ")", x.found(0, what), -1);
            c.due("found(3, " + what + ")", x.found(3, what), -1);
        }
        for (int f : new int[] {-1, 4, MIN, MAX}) {
            c.due("found(" + f + ", 0)", x.found(f, 0), -1);
        }
        found(x, 3, -3, -3);
        found(x, 0, 0, 0);
    }

    private static void forms0To3() {
        c.by(28, "FORMS by n. BAD; NONE: n is above 0 and there are no GROWTHS.");
        FlakeArms x = new FlakeArms();
        c.due("forms(0)", x.forms(0), 1);
        for (int n = 1; n <= 3; n++) {
            c.due("forms(" + n + ") without GROWTHS", x.forms(n), -3);
        }
        for (int n : new int[] {-1, 4, MIN, MAX}) {
            c.due("forms(" + n + ") without GROWTHS", x.forms(n), -1);
        }
        x.growth(0, 0);
        for (int n = 0; n <= 3; n++) {
            c.due("forms(" + n + ") by one", x.forms(n), 1);
        }
        for (int n : new int[] {-1, 4, MIN, MAX}) {
            c.due("forms(" + n + ")", x.forms(n), -1);
        }
        // There are none again.
        FlakeArms y = new FlakeArms();
        y.keep();
        y.growth(0, 1);
        c.due("forms(1)", y.forms(1), 1);
        y.again();
        c.due("forms(0)", y.forms(0), 1);
        c.due("forms(1)", y.forms(1), -3);
    }

    private static void unlikeInSomeCell() {
        c.by(28, "how many FLAKES that are unlike in some CELL come of the beginning by n MINUTES of GROWTHS (without MISS).");
        int[][] kinds = {{0, 1, 2, 3, 4, 5}, {0, 0, 0, 0, 0, 0}, {5, 2, 5, 2, 0, 3}, {2, 0, 5, 4, 0, 1}};
        int[][] as = {{1, 3, 1, 1, 3, 1}, {1, 3, 5, 7, 2, 0}, {1, 1, 3, 3, 0, 1}, {1, 1, 1, 2, 3, 9}};
        for (int i = 0; i < kinds.length; i++) {
            for (int many = 1; many <= 6; many++) {
                FlakeArms x = new FlakeArms();
                for (int k = 0; k < many; k++) {
                    x.growth(kinds[i][k], as[i][k]);
                }
                x.miss(4);
                Set<Set<NaiveFlakes.At>> forms = new HashSet<>();
                forms.add(Set.of(Ice.at(0, 0)));
                for (int n = 0; n <= 3; n++) {
                    c.due("forms(" + n + ") by " + many + " of " + i, x.forms(n), forms.size());
                    forms = next(forms, kinds[i], as[i], many);
                }
                c.due("seed(1)", x.seed(1), 1);
            }
        }
    }

    private static Set<Set<NaiveFlakes.At>> next(Set<Set<NaiveFlakes.At>> forms, int[] kinds, int[] as, int many) {
        Set<Set<NaiveFlakes.At>> next = new HashSet<>();
        for (Set<NaiveFlakes.At> form : forms) {
            for (int k = 0; k < many; k++) {
                next.add(grown(form, kinds[k], as[k]));
            }
        }
        return next;
    }

    private static void formsOfTheBeginning() {
        c.by(28, "come of the beginning by n MINUTES");
        FlakeArms x = new FlakeArms();
        x.growth(0, 1);
        x.growth(2, 1);
        int[] before = {x.forms(0), x.forms(1), x.forms(2), x.forms(3)};
        Ice.put(x, 0, Ice.all());
        Ice.put(x, 1, new TreeSet<>());
        x.grow(2, 0);
        x.grow(3, 1);
        for (int n = 0; n <= 3; n++) {
            c.due("forms(" + n + ") whatever the FLAKES are", x.forms(n), before[n]);
        }
        c.due("forms(1)", x.forms(1), 2);
        c.due("size(0, 0)", x.size(0, 0), 91);
        c.due("size(1, 0)", x.size(1, 0), 0);
        c.due("size(2, 0)", x.size(2, 0), 7);
        c.due("size(3, 0)", x.size(3, 0), 3);
    }

    private static void formsRefused() {
        c.by(28, "FORMS by n (0 to 3)");
        FlakeArms x = new FlakeArms();
        x.growth(0, 1);
        x.growth(0, 0);
        int[] due = {1, 2, 3, 4};
        for (int n = 0; n <= 3; n++) {
            c.due("forms(" + n + ")", x.forms(n), due[n]);
        }
        c.due("forms(4)", x.forms(4), -1);
        c.due("forms(-1)", x.forms(-1), -1);
    }
}
