import java.util.ArrayList;
import java.util.List;
import java.util.Set;

/**
 * All that can be asked of an object, line by line, so that two can be compared. It takes three
 * objects that came to be alike (parts 0 to 2), as one serves 512 calls and some things are told only
 * by calls that change others.
 */
final class Picture {
    static final int PARTS = 3;

    private final FlakeArms x;
    private final List<String> lines = new ArrayList<>();

    private Picture(FlakeArms x) {
        this.x = x;
    }

    static List<String> of(FlakeArms x, int part) {
        Picture p = new Picture(x);
        switch (part) {
            case 0:
                p.flakes();
                break;
            case 1:
                p.host();
                p.world();
                p.miss();
                break;
            default:
                p.behindLaw();
                p.behindAgain();
                break;
        }
        return p.lines;
    }

    private void tell(String what, long answer) {
        lines.add(what + " = " + answer);
    }

    private void flakes() {
        for (int f = 0; f < 4; f++) {
            cells(f);
            sizes(f);
        }
    }

    private void cells(int f) {
        for (NaiveFlakes.At c : NaiveFlakes.CELLS) {
            tell("cell(" + f + ", " + c.q() + ", " + c.r() + ")", x.cell(f, c.q(), c.r()));
        }
    }

    private void sizes(int f) {
        for (int what = 0; what < 5; what++) {
            tell("size(" + f + ", " + what + ")", x.size(f, what));
        }
    }

    private void host() {
        for (int what = 0; what < 5; what++) {
            tell("many(" + what + ")", x.many(what));
        }
        for (int i = 0; i < 7; i++) {
            tell("row(" + i + ", 0)", x.row(i, 0));
            tell("row(" + i + ", 1)", x.row(i, 1));
        }
        for (int i = 0; i < 11; i++) {
            tell("trace(" + i + ")", x.trace(i));
        }
        for (int shelf = 0; shelf < 4; shelf++) {
            for (int as = 0; as < 14; as += as == 5 ? 5 : 1) {
                tell("taken(" + shelf + ", " + as + ")", x.taken(shelf, as));
            }
        }
        for (int sheet = 0; sheet < 4; sheet++) {
            for (int sort = 0; sort < 4; sort++) {
                tell("item(" + sheet + ", " + sort + ", 0)", x.item(sheet, sort, 0));
            }
            // The sort that a row built by Refused has is that of its SHEET's number.
            for (int i = 0; i < 40; i += i < 13 || i > 36 ? 1 : 8) {
                tell("item(" + sheet + ", " + sheet + ", " + i + ")", x.item(sheet, sheet, i));
            }
        }
    }

    private void world() {
        for (int g = 0; g < 6; g++) {
            tell("growthOf(" + g + ", 0)", x.growthOf(g, 0));
            tell("growthOf(" + g + ", 1)", x.growthOf(g, 1));
        }
        for (int minute = 0; minute < 24; minute++) {
            tell("airOf(" + minute + ", 0)", x.airOf(minute, 0));
            tell("airOf(" + minute + ", 1)", x.airOf(minute, 1));
        }
        picks();
    }

    private void picks() {
        for (int f = 0; f < 4; f++) {
            for (int[] air : new int[][] {{0, 0}, {9, 9}, {5, 0}, {0, 5}, {4, 3}}) {
                tell("picks(" + f + ", " + air[0] + ", " + air[1] + ")", x.picks(f, air[0], air[1]));
            }
            tell("picked(" + f + ")", x.picked(f));
        }
        tell("many(1)", x.many(1));
    }

    private void miss() {
        tell("miss(0)", x.miss(0));
        tell("seed(0)", x.seed(0));
    }

    private void behindLaw() {
        tell("law()", x.law());
        tell("many(3)", x.many(3));
        picks();
    }

    private void behindAgain() {
        tell("again()", x.again());
        cells(0);
        for (int f = 0; f < 4; f++) {
            sizes(f);
        }
        world();
        miss();
    }

    /** Lines but those of some beginnings. */
    static List<String> without(List<String> lines, Set<String> beginnings) {
        List<String> left = new ArrayList<>();
        for (String line : lines) {
            boolean out = false;
            for (String beginning : beginnings) {
                out = out || line.startsWith(beginning);
            }
            if (!out) {
                left.add(line);
            }
        }
        return left;
    }
}
