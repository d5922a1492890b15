import java.util.ArrayList;
import java.util.HashMap;
import java.util.List;
import java.util.Map;
import java.util.Set;
import java.util.function.ToLongFunction;

/**
 * Each refused call: its answer, that it changes nothing of what can be asked, and of several refusals
 * the first named. And each call that only tells changes nothing either.
 */
public final class RefusedTest {
    private static final int MIN = Integer.MIN_VALUE;
    private static final int MAX = Integer.MAX_VALUE;
    private static final int[] NO_FLAKE = {-1, 4, MIN, MAX};
    private static final int[] NO_SHEET = NO_FLAKE;
    private static final int[] NO_GROWTH = {-1, 5, 6, MIN, MAX};
    private static final int[] NO_TURN = {-1, 6, MIN, MAX};
    private static final String TEXT = "use 1; use 2 if warm > 4; pick if size > 20; use 3 if wet = 5 and minute < 9;";
    private static final Checks c = new Checks();

    /** What an object is ahead of the call. */
    private enum Start { NEW, RICH, FULL, NEARLY_FULL, NO_TAPE, NO_TRACE, FAULT, NINE, NO_ICE }

    private static final Map<String, List<String>> PICTURES = new HashMap<>();

    public static void main(String[] args) {
        codes();
        codesOfTheHost();
        refusedFlakes();
        refusedTape();
        refusedGrowths();
        refusedAirs();
        refusedCame();
        refusedRows();
        refusedSheets();
        refusedShelves();
        refusedLaw();
        noActs();
        partedActs();
        firstNamedOfFlakes();
        firstNamedOfGrowths();
        firstNamedOfTheHost();
        tellsAlone();
        wildNumbers();
        c.end();
    }

    /** At most some 110 calls. */
    private static FlakeArms build(Start start) {
        FlakeArms x = new FlakeArms();
        if (start == Start.NEW) {
            return x;
        }
        int[] kinds = {0, 1, 4, 2, 5};
        int[] as = {0, 9, 1, 3, 62};
        for (int i = 0; i < 5; i++) {
            x.growth(kinds[i], as[i]);
        }
        x.fall(2, 24);
        x.fall(2, 24);
        x.fall(2, 24);
        Checks.law(x, TEXT);
        for (int i = 0; i < 3; i++) {
            x.grow(0, i + 1);
            x.air(11 * i, 3 * i, 9 - i);
        }
        x.freeze(1, 3, -1, true);
        x.freeze(1, -4, 4, true);
        Ice.put(x, 3, Ice.allBut(Ice.at(0, 0), Ice.at(2, 1)));
        x.miss(2);
        x.seed(-12345);
        x.keep();
        x.grow(1, 1);
        x.freeze(0, 0, -5, true);
        x.air(23, 7, 7);
        x.miss(3);
        x.seed(424242);
        host(x, start);
        return x;
    }

    /** What isn't kept. SHEET n is of sort n, but 2, which is missing. */
    private static void host(FlakeArms x, Start start) {
        x.sheet(0, 0, 7);
        x.sheet(1, 1, 40);
        x.sheet(3, 3, 12);
        x.put(0, 6, 100);
        x.put(1, 39, -3000);
        x.put(3, 11, MIN);
        x.shelf(0, 0, 4);
        x.shelf(1, 1, 1);
        x.shelf(3, 0, 2);
        x.prove(0);
        x.alterRow(1, 1, 17);
        if (start != Start.NO_TRACE) {
            x.act(3, 3, 9);
        }
        switch (start) {
            case FAULT: Checks.feed(x, "use 2 if 1=1; pick if"); break;
            case NINE: Checks.feed(x, "use 2;use 2;use 2;use 2;use 2;use 2;use 2;use 2;use 2;"); break;
            case NO_TAPE: break;
            case NO_ICE: x.freeze(1, 0, 0, false); break;
            default: Checks.feed(x, "use 4;"); break;
        }
        if (start == Start.FULL || start == Start.NEARLY_FULL) {
            x.growth(3, 33);
            for (int i = 0; i < 24; i++) {
                x.feed(0x2020202020202020L, 8);
            }
            x.feed(32, start == Start.FULL ? 2 : 1);
        }
    }

    private static List<String> picture(Start start, int part) {
        return PICTURES.computeIfAbsent(start + " " + part, key -> Picture.of(build(start), part));
    }

    /** An object becomes one that has the same picture as another start. */
    private static void becomes(Start start, Start as, String call, long want, ToLongFunction<FlakeArms> calls,
            Set<String> but) {
        for (int part = 0; part < Picture.PARTS; part++) {
            FlakeArms x = build(start);
            c.due(call + " of " + start, calls.applyAsLong(x), want);
            List<String> got = Picture.without(Picture.of(x, part), but);
            List<String> due = Picture.without(picture(as, part), but);
            if (!got.equals(due)) {
                List<String> changed = new ArrayList<>(got);
                changed.removeAll(due);
                c.dueTrue(call + " of " + start + " changes nothing but " + changed, false);
            }
        }
    }

    private static void refused(Start start, String call, long want, ToLongFunction<FlakeArms> calls) {
        becomes(start, start, call, want, calls, Set.of());
    }

    private static void bad(String call, ToLongFunction<FlakeArms> calls) {
        refused(Start.RICH, call, -1, calls);
    }

    private static void codes() {
        c.by(1, "; FULL (-2); NONE (-3); STATE (-4); and what the host refuses:");
        c.due("BAD", FlakeArms.BAD, -1);
        c.due("FULL", FlakeArms.FULL, -2);
        c.due("NONE", FlakeArms.NONE, -3);
        c.due("STATE", FlakeArms.STATE, -4);
        FlakeArms x = build(Start.FULL);
        c.due("size(4, 0)", x.size(4, 0), -1);
        c.due("growth(0, 0)", x.growth(0, 0), -2);
        c.due("feed(0, 1)", x.feed(0, 1), -2);
        c.due("found(3, 0)", x.found(3, 0), -3);
        c.due("trace(30)", x.trace(30), -3);
        c.due("grow(2, 0)", x.grow(2, 0), -4);
        c.due("again()", new FlakeArms().again(), -3);
        c.due("forms(1)", new FlakeArms().forms(1), -3);
    }

    private static void codesOfTheHost() {
        c.by(36, "-11 nothing where something is asked, -12 a place outside, -13 a thing of another sort or kind, "
            + "-14 a size below 0, -15 parted by 0");
        FlakeArms x = build(Start.RICH);
        c.due("item(2, 2, 0)", x.item(2, 2, 0), -11);
        c.due("put(2, 0, 0)", x.put(2, 0, 0), -11);
        c.due("copies(0, 2)", x.copies(0, 2), -11);
        c.due("taken(2, 0)", x.taken(2, 0), -11);
        c.due("item(0, 0, 7)", x.item(0, 0, 7), -12);
        c.due("put(0, 7, 0)", x.put(0, 7, 0), -12);
        c.due("item(0, 2, 0)", x.item(0, 2, 0), -13);
        c.due("copies(0, 0)", x.copies(0, 0), -13);
        c.due("taken(0, 3)", x.taken(0, 3), -13);
        c.due("sheet(0, 2, -1)", x.sheet(0, 2, -1), -14);
        x.shelf(0, 0, 3);
        c.due("act(0, 2, 9)", x.act(0, 2, 9), -15);
    }

    private static void refusedFlakes() {
        c.by(5, "such a call changes nothing");
        for (int f : NO_FLAKE) {
            bad("begin(" + f + ")", x -> x.begin(f));
            bad("cell(" + f + ", 0, 0)", x -> x.cell(f, 0, 0));
            bad("freeze(" + f + ", 0, 0, false)", x -> x.freeze(f, 0, 0, false));
            bad("freeze(" + f + ", 2, 1, true)", x -> x.freeze(f, 2, 1, true));
            bad("size(" + f + ", 0)", x -> x.size(f, 0));
            bad("arm(" + f + ", 0)", x -> x.arm(f, 0));
            bad("layer(" + f + ", 0)", x -> x.layer(f, 0));
            bad("unlike(" + f + ", 0, true)", x -> x.unlike(f, 0, true));
            bad("apart(" + f + ", 0)", x -> x.apart(f, 0));
            bad("apart(0, " + f + ")", x -> x.apart(0, f));
            bad("copy(" + f + ", 0)", x -> x.copy(f, 0));
            bad("copy(0, " + f + ")", x -> x.copy(0, f));
            bad("meet(" + f + ", 0, 0)", x -> x.meet(f, 0, 0));
            bad("meet(0, " + f + ", 0)", x -> x.meet(0, f, 0));
            bad("breaks(" + f + ", 0)", x -> x.breaks(f, 0));
        }
        int[][] noCell = {{6, 0}, {-6, 0}, {0, 6}, {0, -6}, {5, 1}, {-5, -1}, {MAX, MAX}, {MIN, MIN}, {MIN, 0}, {0, MAX}};
        for (int[] at : noCell) {
            bad("cell(0, " + at[0] + ", " + at[1] + ")", x -> x.cell(0, at[0], at[1]));
            bad("freeze(0, " + at[0] + ", " + at[1] + ", true)", x -> x.freeze(0, at[0], at[1], true));
            bad("freeze(3, " + at[0] + ", " + at[1] + ", false)", x -> x.freeze(3, at[0], at[1], false));
        }
        for (int what : new int[] {-1, 5, MIN, MAX}) {
            bad("size(0, " + what + ")", x -> x.size(0, what));
        }
        for (int k : NO_TURN) {
            bad("arm(3, " + k + ")", x -> x.arm(3, k));
            bad("breaks(3, " + k + ")", x -> x.breaks(3, k));
            bad("unlike(3, " + k + ", false)", x -> x.unlike(3, k, false));
            bad("unlike(3, " + k + ", true)", x -> x.unlike(3, k, true));
            bad("meet(0, 3, " + k + ")", x -> x.meet(0, 3, k));
        }
        for (int minute : new int[] {-1, 61, -9, MIN, MAX}) {
            bad("layer(2, " + minute + ")", x -> x.layer(2, minute));
        }
        for (int f = 0; f < 4; f++) {
            int same = f;
            bad("meet(" + f + ", " + f + ", 1)", x -> x.meet(same, same, 1));
        }
    }

    private static void refusedTape() {
        c.by(2, "such a call changes nothing");
        for (int n : new int[] {0, 9, -1, MIN, MAX}) {
            bad("feed(.., " + n + ")", x -> x.feed(-1L, n));
            refused(Start.FULL, "feed(.., " + n + ")", -1, x -> x.feed(-1L, n));
        }
        for (int n = 1; n <= 8; n++) {
            int bytes = n;
            refused(Start.FULL, "feed(.., " + n + ")", -2, x -> x.feed(-1L, bytes));
            if (n > 1) {
                refused(Start.NEARLY_FULL, "feed(.., " + n + ")", -2, x -> x.feed(-1L, bytes));
            }
        }
    }

    private static void refusedGrowths() {
        c.by(15, "such a call changes nothing");
        for (int v : new int[] {-1, 6, MIN, MAX}) {
            bad("growth(" + v + ", 1)", x -> x.growth(v, 1));
            refused(Start.FULL, "growth(" + v + ", 1)", -1, x -> x.growth(v, 1));
        }
        for (int v : new int[] {-1, 64, MIN, MAX}) {
            bad("growth(0, " + v + ")", x -> x.growth(0, v));
            refused(Start.FULL, "growth(0, " + v + ")", -1, x -> x.growth(0, v));
        }
        for (int kind = 0; kind < 6; kind++) {
            int k = kind;
            refused(Start.FULL, "growth(" + k + ", 63)", -2, x -> x.growth(k, 63));
            refused(Start.FULL, "growth(" + k + ", 0)", -2, x -> x.growth(k, 0));
        }
        for (int g : NO_GROWTH) {
            bad("growthOf(" + g + ", 0)", x -> x.growthOf(g, 0));
            bad("wouldBe(0, " + g + ")", x -> x.wouldBe(0, g));
            bad("grow(0, " + g + ")", x -> x.grow(0, g));
            bad("grow(2, " + g + ") at MINUTE 60", x -> x.grow(2, g));
        }
        for (int what : new int[] {-1, 2, MIN, MAX}) {
            bad("growthOf(0, " + what + ")", x -> x.growthOf(0, what));
        }
        for (int f : NO_FLAKE) {
            bad("wouldBe(" + f + ", 1)", x -> x.wouldBe(f, 1));
            bad("grow(" + f + ", 1)", x -> x.grow(f, 1));
        }
        for (int g = 0; g < 5; g++) {
            int k = g;
            refused(Start.RICH, "grow(2, " + g + ") at MINUTE 60", -4, x -> x.grow(2, k));
        }
        for (int m : new int[] {-1, 5, MIN, MAX}) {
            bad("miss(" + m + ")", x -> x.miss(m));
        }
    }

    private static void refusedAirs() {
        c.by(21, "such a call changes nothing");
        for (int minute : new int[] {-1, 24, MIN, MAX}) {
            bad("air(" + minute + ", 1, 1)", x -> x.air(minute, 1, 1));
            bad("airOf(" + minute + ", 0)", x -> x.airOf(minute, 0));
        }
        for (int v : new int[] {-1, 10, MIN, MAX}) {
            bad("air(0, " + v + ", 1)", x -> x.air(0, v, 1));
            bad("air(23, 1, " + v + ")", x -> x.air(23, 1, v));
            bad("picks(0, " + v + ", 0)", x -> x.picks(0, v, 0));
            bad("picks(0, 0, " + v + ")", x -> x.picks(0, 0, v));
        }
        for (int what : new int[] {-1, 2, MIN, MAX}) {
            bad("airOf(0, " + what + ")", x -> x.airOf(0, what));
        }
        for (int f : NO_FLAKE) {
            bad("picks(" + f + ", 0, 0)", x -> x.picks(f, 0, 0));
            bad("picked(" + f + ")", x -> x.picked(f));
            bad("fall(" + f + ", 3)", x -> x.fall(f, 3));
        }
        for (int n : new int[] {-1, 25, MIN, MAX}) {
            bad("fall(0, " + n + ")", x -> x.fall(0, n));
            bad("fall(2, " + n + ") at MINUTE 60", x -> x.fall(2, n));
        }
        refused(Start.RICH, "fall(0, 0)", 0, x -> x.fall(0, 0));
        refused(Start.RICH, "fall(2, 24) at MINUTE 60", 0, x -> x.fall(2, 24));
        refused(Start.NEW, "fall(0, 24) without GROWTHS", 0, x -> x.fall(0, 24));
    }

    private static void refusedCame() {
        c.by(26, "such a call changes nothing");
        for (int f : NO_FLAKE) {
            bad("odds(" + f + ", 0, 0)", x -> x.odds(f, 0, 0));
            bad("found(" + f + ", 0)", x -> x.found(f, 0));
        }
        for (int g : NO_GROWTH) {
            bad("odds(0, " + g + ", 0)", x -> x.odds(0, g, 0));
        }
        for (int part : new int[] {-1, 2, MIN, MAX}) {
            bad("odds(0, 0, " + part + ")", x -> x.odds(0, 0, part));
            bad("found(0, " + part + ")", x -> x.found(0, part));
        }
        refused(Start.RICH, "found(3, 0)", -3, x -> x.found(3, 0));
        refused(Start.RICH, "found(3, 1)", -3, x -> x.found(3, 1));
        refused(Start.NO_ICE, "found(1, 0)", -3, x -> x.found(1, 0));
        for (int n : new int[] {-1, 4, MIN, MAX}) {
            bad("forms(" + n + ")", x -> x.forms(n));
            refused(Start.NEW, "forms(" + n + ")", -1, x -> x.forms(n));
        }
        for (int n = 1; n < 4; n++) {
            int minutes = n;
            refused(Start.NEW, "forms(" + n + ")", -3, x -> x.forms(minutes));
        }
        refused(Start.NEW, "again()", -3, x -> x.again());
    }

    private static void refusedRows() {
        c.by(31, "such a call changes nothing");
        for (int f : NO_FLAKE) {
            bad("prove(" + f + ")", x -> x.prove(f));
            bad("judge(" + f + ")", x -> x.judge(f));
            bad("copies(" + f + ", 3)", x -> x.copies(f, 3));
            bad("copies(0, " + f + ")", x -> x.copies(0, f));
        }
        refused(Start.RICH, "copies(0, 2) of a missing one", -11, x -> x.copies(0, 2));
        for (int sheet : new int[] {0, 1, 3}) {
            refused(Start.RICH, "copies(0, " + sheet + ")", -13, x -> x.copies(0, sheet));
        }
        for (int i : new int[] {-1, 6, 7, MIN, MAX}) {
            refused(Start.RICH, "row(" + i + ", 0)", -9, x -> x.row(i, 0));
            refused(Start.RICH, "alterRow(" + i + ", 0, 3)", -9, x -> x.alterRow(i, 0, 3));
            refused(Start.NEW, "alterRow(" + i + ", 0, 3)", -9, x -> x.alterRow(i, 0, 3));
        }
        refused(Start.NEW, "alterRow(0, 0, 3)", -9, x -> x.alterRow(0, 0, 3));
        for (int what : new int[] {-1, 2, MIN, MAX}) {
            refused(Start.RICH, "row(0, " + what + ")", -9, x -> x.row(0, what));
            refused(Start.RICH, "alterRow(0, " + what + ", 3)", -9, x -> x.alterRow(0, what, 3));
        }
    }

    private static void refusedSheets() {
        c.by(34, "such a call changes nothing");
        for (int s : NO_SHEET) {
            bad("sheet(" + s + ", 0, 1)", x -> x.sheet(s, 0, 1));
            bad("sheet(" + s + ", -1, 1)", x -> x.sheet(s, -1, 1));
            bad("put(" + s + ", 0, 1)", x -> x.put(s, 0, 1));
            bad("item(" + s + ", 0, 0)", x -> x.item(s, 0, 0));
        }
        for (int sort : new int[] {-2, 4, MIN, MAX}) {
            bad("sheet(0, " + sort + ", 1)", x -> x.sheet(0, sort, 1));
        }
        for (int sort : new int[] {-1, 4, MIN, MAX}) {
            bad("item(0, " + sort + ", 0)", x -> x.item(0, sort, 0));
        }
        for (int n : new int[] {41, 42, MAX}) {
            bad("sheet(0, 0, " + n + ")", x -> x.sheet(0, 0, n));
            bad("sheet(2, 2, " + n + ")", x -> x.sheet(2, 2, n));
        }
        for (int n : new int[] {-1, -2, MIN}) {
            refused(Start.RICH, "sheet(0, 0, " + n + ")", -14, x -> x.sheet(0, 0, n));
            refused(Start.RICH, "sheet(2, 2, " + n + ")", -14, x -> x.sheet(2, 2, n));
        }
        for (int i : new int[] {-1, 7, 39, 40, MIN, MAX}) {
            refused(Start.RICH, "put(0, " + i + ", 1)", -12, x -> x.put(0, i, 1));
            refused(Start.RICH, "item(0, 0, " + i + ")", -12, x -> x.item(0, 0, i));
        }
        refused(Start.RICH, "put(1, 40, 1)", -12, x -> x.put(1, 40, 1));
        refused(Start.RICH, "put(2, 0, 1)", -11, x -> x.put(2, 0, 1));
        refused(Start.RICH, "item(2, 2, 0)", -11, x -> x.item(2, 2, 0));
        refused(Start.RICH, "item(0, 1, 0)", -13, x -> x.item(0, 1, 0));
    }

    private static void refusedShelves() {
        c.by(37, "such a call changes nothing");
        for (int s : NO_SHEET) {
            bad("shelf(" + s + ", 0, 0)", x -> x.shelf(s, 0, 0));
            bad("shelf(" + s + ", 1, 0)", x -> x.shelf(s, 1, 0));
            bad("shelf(" + s + ", 2, 0)", x -> x.shelf(s, 2, 0));
            bad("taken(" + s + ", 0)", x -> x.taken(s, 0));
            bad("shelf(0, 1, " + s + ")", x -> x.shelf(0, 1, s));
        }
        for (int g : NO_GROWTH) {
            bad("shelf(0, 0, " + g + ")", x -> x.shelf(0, 0, g));
        }
        for (int what : new int[] {-1, 3, MIN, MAX}) {
            bad("shelf(0, " + what + ", 0)", x -> x.shelf(0, what, 0));
        }
        for (int as : new int[] {-1, 6, 9, 14, MIN, MAX}) {
            bad("taken(0, " + as + ")", x -> x.taken(0, as));
        }
        refused(Start.RICH, "taken(2, 0)", -11, x -> x.taken(2, 0));
        refused(Start.RICH, "taken(0, 1)", -13, x -> x.taken(0, 1));
        refused(Start.RICH, "taken(1, 10)", -13, x -> x.taken(1, 10));
        for (int i : new int[] {-1, 10, 30, MIN, MAX}) {
            refused(Start.RICH, "trace(" + i + ")", -3, x -> x.trace(i));
        }
        for (int what : new int[] {-1, 5, MIN, MAX}) {
            bad("many(" + what + ")", x -> x.many(what));
        }
    }

    private static void refusedLaw() {
        c.by(3, "(but that THE TAPE is used up by law())");
        becomes(Start.FAULT, Start.NO_TAPE, "law() with a FAULT", -121, x -> x.law(), Set.of());
        becomes(Start.NINE, Start.NO_TAPE, "law() of nine CLAUSES", -148, x -> x.law(), Set.of());
    }

    private static void noActs() {
        c.by(39, "0, and no TRACE then: no such SHELF, act, nothing, a row.");
        int[][] none = {{-1, 0}, {4, 0}, {MIN, 3}, {MAX, 3}, {3, -1}, {3, 4}, {3, MIN}, {3, MAX}, {2, 1}, {1, 2}};
        for (int[] call : none) {
            becomes(Start.RICH, Start.NO_TRACE, "act(" + call[0] + ", " + call[1] + ", 7)", 0,
                x -> x.act(call[0], call[1], 7), Set.of());
        }
    }

    private static void partedActs() {
        c.by(39, "-15 parted by 0");
        // GROWTH 3 has its own number for its A.
        becomes(Start.RICH, Start.RICH, "act(0, 2, 7) of GROWTH 3", -15, x -> {
            x.shelf(0, 0, 3);
            long answer = x.act(0, 2, 7);
            x.shelf(0, 0, 4);
            return answer;
        }, Set.of("trace(", "many(4)"));
    }

    private static void due(String call, long got, long want) {
        c.due(call, got, want);
    }

    private static void firstNamedOfFlakes() {
        c.by(18, "of several the first named: BAD (-1)");
        FlakeArms x = build(Start.FULL);
        due("feed(0, 9) with THE TAPE full", x.feed(0, 9), -1);
        due("feed(0, 0) with THE TAPE full", x.feed(0, 0), -1);
        due("feed(0, 1) with THE TAPE full", x.feed(0, 1), -2);
        due("growth(6, 0) with six", x.growth(6, 0), -1);
        due("growth(0, 64) with six", x.growth(0, 64), -1);
        due("growth(0, 0) with six", x.growth(0, 0), -2);
        due("grow(2, 6) at MINUTE 60", x.grow(2, 6), -1);
        due("grow(2, -1) at MINUTE 60", x.grow(2, -1), -1);
        due("grow(2, 0) at MINUTE 60", x.grow(2, 0), -4);
    }

    private static void firstNamedOfGrowths() {
        c.by(26, "of several the first named: BAD (-1) there is no such thing, or a number is not as told");
        FlakeArms x = new FlakeArms();
        x.growth(0, 63);
        Ice.put(x, 0, Ice.ring(3));
        due("odds(0, 0, 2) of many", x.odds(0, 0, 2), -1);
        due("odds(0, 0, -1) of many", x.odds(0, 0, -1), -1);
        due("odds(0, 1, 0) of many", x.odds(0, 1, 0), -1);
        due("odds(0, 0, 0) of many", x.odds(0, 0, 0), -4);
        due("found(0, 2)", x.found(0, 2), -1);
        due("found(0, 1)", x.found(0, 1), -3);
        FlakeArms y = new FlakeArms();
        due("forms(4) without GROWTHS", y.forms(4), -1);
        due("forms(-1) without GROWTHS", y.forms(-1), -1);
        due("forms(3) without GROWTHS", y.forms(3), -3);
        due("forms(0) without GROWTHS", y.forms(0), 1);
    }

    private static void firstNamedOfTheHost() {
        c.by(36, "of several the first named");
        FlakeArms x = build(Start.RICH);
        due("copies(4, 2)", x.copies(4, 2), -1);
        due("copies(4, 0)", x.copies(4, 0), -1);
        due("copies(0, 2)", x.copies(0, 2), -11);
        due("sheet(4, 0, -1)", x.sheet(4, 0, -1), -1);
        due("sheet(0, 4, -1)", x.sheet(0, 4, -1), -1);
        due("sheet(0, -2, -1)", x.sheet(0, -2, -1), -1);
        due("sheet(0, 0, -1)", x.sheet(0, 0, -1), -14);
        due("put(4, -1, 0)", x.put(4, -1, 0), -1);
        due("put(2, -1, 0)", x.put(2, -1, 0), -11);
        due("put(2, 40, 0)", x.put(2, 40, 0), -11);
        due("put(0, -1, 0)", x.put(0, -1, 0), -12);
        due("item(4, 4, -1)", x.item(4, 4, -1), -1);
        due("item(2, 4, -1)", x.item(2, 4, -1), -1);
        due("item(2, 3, -1)", x.item(2, 3, -1), -11);
        due("item(0, 3, -1)", x.item(0, 3, -1), -13);
        due("item(0, 3, 7)", x.item(0, 3, 7), -13);
        due("item(0, 0, 7)", x.item(0, 0, 7), -12);
        due("taken(2, 6)", x.taken(2, 6), -1);
        due("taken(4, 6)", x.taken(4, 6), -1);
        due("taken(2, 5)", x.taken(2, 5), -11);
        due("taken(1, 5)", x.taken(1, 5), -13);
    }

    /** Calls that only tell something. */
    private static void tellsAlone() {
        c.by(26, "Nothing is promised beyond the answers and state changes described above");
        Map<String, ToLongFunction<FlakeArms>> tells = new HashMap<>();
        for (int f = 0; f < 4; f++) {
            int k = f;
            tells.put("size(" + f + ", 3)", x -> x.size(k, 3));
            tells.put("arm(" + f + ", 2)", x -> x.arm(k, 2));
            tells.put("layer(" + f + ", 1)", x -> x.layer(k, 1));
            tells.put("unlike(" + f + ", 1, true)", x -> x.unlike(k, 1, true));
            tells.put("apart(" + f + ", 0)", x -> x.apart(k, 0));
            tells.put("wouldBe(" + f + ", 1)", x -> x.wouldBe(k, 1));
            tells.put("odds(" + f + ", 1, 0)", x -> x.odds(k, 1, 0));
            tells.put("found(" + f + ", 1)", x -> x.found(k, 1));
            tells.put("forms(" + f + ")", x -> x.forms(k));
            tells.put("judge(" + f + ")", x -> x.judge(k));
            tells.put("picks(" + f + ", 9, 9)", x -> x.picks(k, 9, 9));
            tells.put("picked(" + f + ")", x -> x.picked(k));
        }
        tells.forEach((call, calls) -> refused(Start.RICH, call, calls.applyAsLong(build(Start.RICH)), calls));
    }

    /** Whatever the numbers, in whatever state: an answer comes, and none is thrown. */
    private static void wildNumbers() {
        c.by(41, "BAD (-1) there is no such thing, or a number is not as told");
        int[] wild = {MIN, MIN + 1, -100, -6, -1, 0, 1, 3, 4, 5, 6, 40, 41, 200, 1 << 16, 1 << 31, MAX - 1, MAX};
        int answers = 0;
        for (Start start : Start.values()) {
            for (int a : wild) {
                FlakeArms x = build(start);
                answers += ones(x, a);
                for (int b : wild) {
                    x = build(start);
                    answers += twos(x, a, b);
                    for (int d : wild) {
                        answers += threes(x, a, b, d);
                    }
                }
            }
        }
        c.dueTrue("all " + answers + " answers came", answers > 100000);
    }

    private static int ones(FlakeArms x, int a) {
        x.begin(a);
        x.miss(a);
        x.seed(a);
        x.picked(a);
        x.forms(a);
        x.prove(a);
        x.judge(a);
        x.trace(a);
        x.many(a);
        x.feed(a, a);
        x.law();
        x.keep();
        x.again();
        return 13;
    }

    private static int twos(FlakeArms x, int a, int b) {
        x.feed(a, b);
        x.size(a, b);
        x.arm(a, b);
        x.layer(a, b);
        x.apart(a, b);
        x.copy(a, b);
        x.breaks(a, b);
        x.growth(a, b);
        x.growthOf(a, b);
        x.wouldBe(a, b);
        x.grow(a, b);
        x.airOf(a, b);
        x.fall(a, b);
        x.found(a, b);
        x.row(a, b);
        x.copies(a, b);
        x.taken(a, b);
        return 17;
    }

    private static int threes(FlakeArms x, int a, int b, int d) {
        x.cell(a, b, d);
        x.freeze(a, b, d, (a ^ b ^ d) > 0);
        x.unlike(a, b, d > 0);
        x.meet(a, b, d);
        x.air(a, b, d);
        x.picks(a, b, d);
        x.odds(a, b, d);
        x.alterRow(a, b, d);
        x.sheet(a, b, d);
        x.put(a, b, d);
        x.item(a, b, d);
        x.shelf(a, b, d);
        x.act(a, b, d);
        return 13;
    }
}
