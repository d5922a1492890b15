import java.util.TreeSet;

/** Promises 42 and 43, and the 512 calls: each sentence that names a boundary case. */
public final class BoundsKeptTest {
    private static final Checks c = new Checks();

    public static void main(String[] args) {
        nothingKept();
        keepsEmpty();
        keepsFull();
        keptButThese();
        keptLatest();
        staysKept();
        keptIsNoneOfNow();
        flakesAt60();
        lawOfEight();
        c512Calls();
        c512Growths();
        c512Laws();
        c512Acts();
        c.end();
    }

    private static void nothingKept() {
        c.by(43, "NONE: nothing is kept.");
        FlakeArms x = new FlakeArms();
        c.due("again()", x.again(), -3);
        x.growth(0, 1);
        x.grow(0, 0);
        c.due("again()", x.again(), -3);
        c.due("many(0)", x.many(0), 1);
        c.due("size(0, 0)", x.size(0, 0), 7);
        c.due("size(0, 4)", x.size(0, 4), 1);
        c.due("keep()", x.keep(), 1);
        c.due("again()", x.again(), 1);
        c.due("again() of another object", new FlakeArms().again(), -3);
    }

    private static void keepsEmpty() {
        c.by(43, "It becomes what was kept latest (which stays): how many GROWTHS.");
        FlakeArms x = new FlakeArms();
        c.due("keep() at first", x.keep(), 1);
        for (int many = 0; many <= 6; many++) {
            for (int i = 0; i < many; i++) {
                c.due("growth(" + i % 6 + ", 5)", x.growth(i % 6, 5), i);
            }
            c.due("again() behind " + many, x.again(), 0);
            c.due("many(0)", x.many(0), 0);
            c.due("growthOf(0, 0)", x.growthOf(0, 0), -1);
        }
        for (int many = 1; many <= 6; many++) {
            x.growth(0, many);
            x.keep();
            c.due("again() with " + many, x.again(), many);
        }
        c.due("growth(0, 1)", x.growth(0, 1), -2);
    }

    private static void fill(FlakeArms x, int with) {
        while (x.growth(with % 6, with) >= 0) {
            continue;
        }
        Ice.put(x, 0, Ice.all());
        Ice.put(x, 3, new TreeSet<>());
        x.fall(1, 24);
        Checks.law(x, "use " + with % 6 + "; pick if size = 91; use 0 if wet > " + with % 9 + ";");
        for (int minute = 0; minute < 24; minute++) {
            x.air(minute, with % 10, minute % 10);
        }
        x.miss(with % 5);
        x.seed(with * 1000000007);
    }

    private static void isFilled(FlakeArms x, int with, int minute) {
        c.due("many(0)", x.many(0), 6);
        c.due("growthOf(5, 0)", x.growthOf(5, 0), with % 6);
        c.due("growthOf(5, 1)", x.growthOf(5, 1), with);
        c.due("size(0, 0)", x.size(0, 0), 91);
        c.due("size(3, 0)", x.size(3, 0), 0);
        c.due("size(1, 4)", x.size(1, 4), minute);
        c.due("many(1)", x.many(1), 3);
        c.due("picks(0, 0, 0)", x.picks(0, 0, 0), with % 6);
        c.due("picks(0, 0, 9)", x.picks(0, 0, 9), 0);
        c.due("picks(0, 0, " + with % 9 + ")", x.picks(0, 0, with % 9), with % 6);
        c.due("picked(0)", x.picked(0), 1);
        c.due("picked(2)", x.picked(2), 0);
        for (int i = 0; i < 24; i += 23) {
            c.due("airOf(" + i + ", 0)", x.airOf(i, 0), with % 10);
            c.due("airOf(" + i + ", 1)", x.airOf(i, 1), i % 10);
        }
        c.due("miss(0)", x.miss(0), with % 5);
        c.due("seed(0)", x.seed(0), with * 1000000007);
    }

    private static void keepsFull() {
        c.by(42, "All but THE TAPE, ROWS, SHEETS, SHELVES, THE TRACE is kept: 1.");
        FlakeArms x = new FlakeArms();
        fill(x, 13);
        c.due("keep()", x.keep(), 1);
        isFilled(x, 13, 24);
        for (int f = 0; f < 4; f++) {
            x.begin(f);
        }
        Checks.law(x, "");
        for (int minute = 0; minute < 24; minute++) {
            x.air(minute, 5, 5);
        }
        c.due("again()", x.again(), 6);
        isFilled(x, 13, 24);
        c.due("keep()", x.keep(), 1);
        c.due("again()", x.again(), 6);
        c.due("miss(0)", x.miss(0), 0);
    }

    private static void keptButThese() {
        c.by(42, "All but THE TAPE, ROWS, SHEETS, SHELVES, THE TRACE is kept");
        FlakeArms x = new FlakeArms();
        x.growth(0, 6);
        Checks.feed(x, "use 4;");
        x.prove(0);
        x.sheet(1, 0, 3);
        x.put(1, 2, 44);
        x.shelf(0, 0, 0);
        x.shelf(1, 1, 1);
        x.act(0, 3, 5);
        x.keep();
        // None of these becomes what it was at keep(), not even to be nothing again.
        x.law();
        Checks.feed(x, "use 5;");
        x.freeze(0, 1, 0, true);
        x.prove(0);
        x.alterRow(1, 1, 9);
        x.sheet(1, 3, 40);
        x.put(1, 39, -44);
        x.shelf(0, 2, 0);
        x.shelf(2, 0, 0);
        x.act(2, 1, 5);
        c.due("again()", x.again(), 1);
        c.due("many(1)", x.many(1), 0);
        c.due("many(3)", x.many(3), 6);
        c.due("many(2)", x.many(2), 2);
        c.due("row(1, 1)", x.row(1, 1), 9);
        c.due("item(1, 3, 39)", x.item(1, 3, 39), -44);
        c.due("taken(0, 0)", x.taken(0, 0), -11);
        c.due("taken(1, 10)", x.taken(1, 10), 3);
        c.due("taken(2, 0)", x.taken(2, 0), 0);
        c.due("many(4)", x.many(4), 2);
        c.due("trace(0)", x.trace(0), 11);
        c.due("judge(0)", x.judge(0), 2);
        c.due("law()", x.law(), 1);
        c.due("picks(0, 0, 0)", x.picks(0, 0, 0), 5);
        // Nor does keep() itself.
        x.feed(32, 1);
        x.keep();
        c.due("many(3)", x.many(3), 1);
        c.due("many(2)", x.many(2), 2);
        c.due("many(4)", x.many(4), 2);
        c.due("taken(2, 0)", x.taken(2, 0), 0);
    }

    private static void keptLatest() {
        c.by(43, "It becomes what was kept latest");
        FlakeArms x = new FlakeArms();
        x.growth(0, 1);
        for (int ice = 1; ice < 6; ice++) {
            x.freeze(2, ice, 0, true);
            x.seed(ice);
            x.keep();
            x.begin(2);
            c.due("again()", x.again(), 1);
            c.due("arm(2, 0)", x.arm(2, 0), ice);
            c.due("seed(99)", x.seed(99), ice);
        }
        c.due("again()", x.again(), 1);
        c.due("arm(2, 0)", x.arm(2, 0), 5);
        c.due("seed(99)", x.seed(99), 5);
    }

    private static void staysKept() {
        c.by(43, "(which stays)");
        FlakeArms x = new FlakeArms();
        x.growth(0, 1);
        x.keep();
        for (int i = 0; i < 5; i++) {
            x.grow(0, 0);
            x.growth(1, i);
            x.air(0, i, i);
            x.miss(1 + i % 4);
            c.due("again()", x.again(), 1);
            c.due("size(0, 0)", x.size(0, 0), 1);
            c.due("size(0, 4)", x.size(0, 4), 0);
            c.due("airOf(0, 0)", x.airOf(0, 0), 0);
            c.due("miss(0)", x.miss(0), 0);
            c.due("seed(1)", x.seed(1), 1);
        }
    }

    private static void keptIsNoneOfNow() {
        c.by(43, "It becomes what was kept latest (which stays)");
        FlakeArms x = new FlakeArms();
        fill(x, 7);
        x.keep();
        // What is kept isn't changed by what is changed now, be it before again() or behind it.
        for (int round = 0; round < 2; round++) {
            x.freeze(0, 0, 0, false);
            x.freeze(3, 0, 0, true);
            x.begin(1);
            x.air(0, 9, 9);
            x.air(23, 9, 9);
            Checks.law(x, "use 0; use 0; use 0; pick if 1=2;");
            x.again();
            isFilled(x, 7, 24);
        }
    }

    private static void flakesAt60() {
        c.by(42, "FLAKE's MINUTE is how many it grew");
        FlakeArms x = new FlakeArms();
        x.growth(0, 0);
        x.fall(0, 24);
        x.fall(0, 24);
        c.due("fall(0, 24)", x.fall(0, 24), 12);
        x.keep();
        x.begin(0);
        c.due("again()", x.again(), 1);
        c.due("size(0, 4)", x.size(0, 4), 60);
        c.due("grow(0, 0)", x.grow(0, 0), -4);
        x.begin(0);
        x.keep();
        x.fall(0, 1);
        x.again();
        c.due("size(0, 4)", x.size(0, 4), 0);
        c.due("grow(0, 0)", x.grow(0, 0), 0);
    }

    private static void lawOfEight() {
        c.by(42, "8 CLAUSES at most.");
        FlakeArms x = new FlakeArms();
        StringBuilder text = new StringBuilder();
        for (int i = 0; i < 8; i++) {
            text.append("use ").append((i + 1) % 6).append(" if warm>").append(i).append("or 1=2;");
        }
        c.due("law()", Checks.law(x, text.toString()), 8);
        x.keep();
        c.due("law()", x.law(), 0);
        x.again();
        c.due("many(1)", x.many(1), 8);
        for (int warm = 0; warm <= 9; warm++) {
            c.due("picks(0, " + warm + ", 0)", x.picks(0, warm, 0), Math.min(8, warm) % 6);
        }
    }

    private static void c512Calls() {
        c.by(1, "An object is used for at most 512 calls after it has been made");
        // The 512th is as the first, whatever the 511 ahead of it were.
        FlakeArms x = new FlakeArms();
        for (int i = 1; i <= 511; i++) {
            x.freeze(i % 4, i % 6, 0, i % 3 != 0);
        }
        c.due("the 512th call", x.cell(0, 0, 1), -9);
        x = new FlakeArms();
        for (int i = 1; i <= 510; i++) {
            x.size(i % 4, i % 5);
        }
        c.due("the 511th call", x.growth(0, 63), 0);
        c.due("the 512th call", x.grow(3, 0), 6);
    }

    private static void c512Growths() {
        c.by(43, "An object is used for at most 512 calls");
        FlakeArms x = new FlakeArms();
        int calls = 1;
        x.keep();
        while (calls < 511) {
            c.due("growth at call " + calls, x.growth(calls % 6, calls % 64), 0);
            c.due("again at call " + calls, x.again(), 0);
            calls += 2;
        }
        c.due("the 512th call", x.growth(0, 0), 0);
    }

    private static void c512Laws() {
        c.by(3, "used for at most 512 calls after it has been made");
        FlakeArms x = new FlakeArms();
        for (int calls = 0; calls < 510; calls += 2) {
            c.due("feed at call " + calls, x.feed(0x3b3520657375L, 6), 6);
            c.due("law at call " + calls, x.law(), 1);
        }
        c.due("picks(0, 0, 0)", x.picks(0, 0, 0), 5);
        c.due("the 512th call", x.many(3), 0);
    }

    private static void c512Acts() {
        c.by(39, "at most 512 calls after it has been made");
        FlakeArms x = new FlakeArms();
        x.growth(4, 7);
        x.shelf(0, 0, 0);
        for (int calls = 2; calls < 511; calls++) {
            c.due("act at call " + calls, x.act(0, 0, calls), calls * 3);
        }
        c.due("the 512th call", x.trace(2), 10);
        FlakeArms y = new FlakeArms();
        for (int i = 0; i < 6; i++) {
            y.growth(i, 1);
        }
        int forms = y.forms(3);
        int found = y.found(0, 0);
        for (int calls = 8; calls < 512; calls++) {
            c.due("call " + calls, calls % 2 == 0 ? y.forms(3) : y.found(0, 0), calls % 2 == 0 ? forms : found);
        }
    }
}
