import java.util.Collection;
import java.util.HashSet;
import java.util.Set;
import java.util.TreeSet;

/** Sets of CELLS, and FLAKES that have ICE in just these. */
final class Ice {
    /** The SHEET by which put() tells the CELLS; the tests that use it leave it to this. */
    static final int SHEET = 3;

    private Ice() { }

    static NaiveFlakes.At at(int q, int r) {
        return new NaiveFlakes.At(q, r);
    }

    static Set<NaiveFlakes.At> all() {
        return new TreeSet<>(NaiveFlakes.CELLS);
    }

    static Set<NaiveFlakes.At> ring(int ring) {
        Set<NaiveFlakes.At> cells = all();
        cells.removeIf(c -> c.ring() != ring);
        return cells;
    }

    static Set<NaiveFlakes.At> allBut(NaiveFlakes.At... bare) {
        Set<NaiveFlakes.At> cells = all();
        for (NaiveFlakes.At c : bare) {
            cells.remove(c);
        }
        return cells;
    }

    /** The CELLS beside one, as far as they are CELLS. */
    static Set<NaiveFlakes.At> beside(NaiveFlakes.At c) {
        Set<NaiveFlakes.At> cells = new TreeSet<>();
        for (int k = 0; k < 6; k++) {
            if (c.towards(k).isCell()) {
                cells.add(c.towards(k));
            }
        }
        return cells;
    }

    /** Thirteen calls: a FLAKE has ICE in just these CELLS, since its MINUTE. */
    static void put(FlakeArms x, int flake, Collection<NaiveFlakes.At> cells) {
        Set<NaiveFlakes.At> set = new HashSet<>(cells);
        x.sheet(SHEET, 2, 11);
        for (int r = -5; r <= 5; r++) {
            int bits = 0;
            int bit = 0;
            for (int q = -5; q <= 5; q++) {
                if (at(q, r).isCell()) {
                    bits |= set.contains(at(q, r)) ? 1 << bit : 0;
                    bit++;
                }
            }
            x.put(SHEET, r + 5, bits);
        }
        x.copies(flake, SHEET);
    }

    /** 91 calls: the CELLS of a FLAKE with ICE. */
    static Set<NaiveFlakes.At> of(FlakeArms x, int flake) {
        Set<NaiveFlakes.At> cells = all();
        cells.removeIf(c -> x.cell(flake, c.q(), c.r()) < 0);
        return cells;
    }

    /** A FLAKE grows to a MINUTE (60 at most) by a GROWTH that freezes nothing. */
    static void passTo(FlakeArms x, int flake, int minute, int idle) {
        while (x.size(flake, 4) < minute && x.grow(flake, idle) >= 0) {
            continue;
        }
    }
}
