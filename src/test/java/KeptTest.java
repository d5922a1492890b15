/** Promises 42 and 43: what is kept, and what it becomes again. */
public final class KeptTest {
    private static final Checks c = new Checks();

    public static void main(String[] args) {
        none();
        kept();
        notKept();
        latest();
        c.end();
    }

    private static void none() {
        FlakeArms x = new FlakeArms();
        x.growth(0, 1);
        c.due(43, "again()", x.again(), -3);
        c.due(43, "many(0)", x.many(0), 1);
        c.due(42, "keep()", x.keep(), 1);
        c.due(43, "again()", x.again(), 1);
        FlakeArms y = new FlakeArms();
        y.keep();
        c.due(43, "again() without GROWTHS", y.again(), 0);
    }

    private static void change(FlakeArms x) {
        x.grow(0, 0);
        x.begin(3);
        x.growth(1, 5);
        Checks.law(x, "use 5; pick if 1=2;");
        x.air(3, 9, 9);
        x.miss(4);
        x.seed(44);
    }

    private static void kept() {
        FlakeArms x = new FlakeArms();
        x.growth(0, 1);
        x.grow(3, 0);
        Checks.law(x, "use 0; use 2 if wet > 5; pick if 1=1;");
        x.air(3, 1, 2);
        x.miss(1);
        x.seed(7);
        c.due(42, "keep()", x.keep(), 1);
        for (int i = 0; i < 2; i++) {
            change(x);
            c.due(43, "again()", x.again(), 1);
            c.due(42, "size(0, 0)", x.size(0, 0), 1);
            c.due(42, "size(0, 4)", x.size(0, 4), 0);
            c.due(42, "size(3, 0)", x.size(3, 0), 7);
            c.due(42, "size(3, 4)", x.size(3, 4), 1);
            c.due(42, "cell(3, 1, 0)", x.cell(3, 1, 0), 1);
            c.due(42, "growthOf(0, 1)", x.growthOf(0, 1), 1);
            c.due(42, "growthOf(1, 0)", x.growthOf(1, 0), -1);
            c.due(42, "many(1)", x.many(1), 3);
            c.due(42, "picks(0, 0, 6)", x.picks(0, 0, 6), 2);
            c.due(42, "picks(0, 0, 5)", x.picks(0, 0, 5), 0);
            c.due(42, "picked(0)", x.picked(0), 1);
            c.due(42, "airOf(3, 0)", x.airOf(3, 0), 1);
            c.due(42, "airOf(3, 1)", x.airOf(3, 1), 2);
            c.due(42, "miss(3)", x.miss(3), 1);
            c.due(42, "seed(0)", x.seed(0), 7);
        }
    }

    private static void notKept() {
        FlakeArms x = new FlakeArms();
        x.growth(0, 1);
        x.keep();
        x.feed(0x20, 1);
        x.grow(1, 0);
        x.prove(1);
        x.alterRow(0, 0, 5);
        x.sheet(2, 2, 9);
        x.put(2, 8, 77);
        x.shelf(1, 0, 0);
        x.shelf(2, 1, 2);
        x.act(1, 3, 4);
        c.due(43, "again()", x.again(), 1);
        c.due(42, "many(3)", x.many(3), 1);
        c.due(42, "many(2)", x.many(2), 2);
        c.due(42, "row(0, 0)", x.row(0, 0), 5);
        c.due(42, "item(2, 2, 8)", x.item(2, 2, 8), 77);
        c.due(42, "taken(1, 0)", x.taken(1, 0), 0);
        c.due(42, "taken(2, 12)", x.taken(2, 12), 9);
        c.due(42, "many(4)", x.many(4), 3);
        c.due(42, "trace(0)", x.trace(0), 13);
        x.act(1, 0, 4);
        c.due(42, "trace(0) of a new act", x.trace(0), 10);
    }

    private static void latest() {
        FlakeArms x = new FlakeArms();
        x.keep();
        x.growth(0, 1);
        x.grow(0, 0);
        x.keep();
        x.grow(0, 0);
        x.growth(0, 1);
        c.due(43, "again()", x.again(), 1);
        c.due(43, "size(0, 0)", x.size(0, 0), 7);
        x.grow(0, 0);
        c.due(43, "again()", x.again(), 1);
        c.due(43, "size(0, 4)", x.size(0, 4), 1);
    }
}
