import java.math.BigInteger;
import java.util.ArrayDeque;
import java.util.ArrayList;
import java.util.Deque;
import java.util.HashSet;
import java.util.List;
import java.util.Map;
import java.util.Set;
import java.util.TreeMap;

/**
 * The document once more, written with the Java library and without a thought for speed or room:
 * RandomRunsTest compares FlakeArms with it.
 */
final class NaiveFlakes {
    /** In the order of CELLS: by r, then by q. */
    record At(int q, int r) implements Comparable<At> {
        public int compareTo(At o) {
            return r != o.r ? Integer.compare(r, o.r) : Integer.compare(q, o.q);
        }

        boolean isCell() {
            return Math.abs((long) q) <= 5 && Math.abs((long) r) <= 5 && Math.abs((long) q + r) <= 5;
        }

        int ring() {
            return Math.max(Math.abs(q), Math.max(Math.abs(r), Math.abs(q + r)));
        }

        At towards(int k) {
            return switch (k) {
                case 0 -> new At(q + 1, r);
                case 1 -> new At(q, r + 1);
                case 2 -> new At(q - 1, r + 1);
                case 3 -> new At(q - 1, r);
                case 4 -> new At(q, r - 1);
                default -> new At(q + 1, r - 1);
            };
        }

        At turned() {
            return new At(-r, q + r);
        }
    }

    static final class Flake {
        TreeMap<At, Integer> ice = new TreeMap<>();
        int minute;

        Flake copy() {
            Flake f = new Flake();
            f.ice.putAll(ice);
            f.minute = minute;
            return f;
        }
    }

    record Kind(int kind, int a) { }

    interface Cond {
        boolean holds(Map<String, Integer> values);
    }

    record Clause(boolean pick, int uses, Cond cond) { }

    /** What keep() keeps. */
    static final class Kept {
        List<Flake> flakes = new ArrayList<>();
        List<Kind> growths = new ArrayList<>();
        List<Clause> law = new ArrayList<>();
        int[][] airs = new int[24][2];
        int miss;
        int z = 1;

        Kept copy() {
            Kept k = new Kept();
            for (Flake f : flakes) {
                k.flakes.add(f.copy());
            }
            k.growths.addAll(growths);
            k.law.addAll(law);
            for (int i = 0; i < 24; i++) {
                k.airs[i] = airs[i].clone();
            }
            k.miss = miss;
            k.z = z;
            return k;
        }
    }

    static final class Fault extends RuntimeException {
        final int place;

        Fault(int place) {
            super(null, null, false, false);
            this.place = place;
        }
    }

    static final List<At> CELLS = new ArrayList<>();
    static {
        for (int r = -5; r <= 5; r++) {
            for (int q = -5; q <= 5; q++) {
                if (new At(q, r).isCell()) {
                    CELLS.add(new At(q, r));
                }
            }
        }
    }

    Kept now = new Kept();
    Kept kept;
    StringBuilder tape = new StringBuilder();
    List<int[]> rows = new ArrayList<>();
    Object[] sheets = new Object[4];
    Object[] shelves = new Object[4];
    List<Integer> trace = new ArrayList<>();

    NaiveFlakes() {
        for (int i = 0; i < 4; i++) {
            now.flakes.add(beginning());
        }
    }

    static Flake beginning() {
        Flake f = new Flake();
        f.ice.put(new At(0, 0), 0);
        return f;
    }

    static boolean in(int v, int low, int high) {
        return v >= low && v <= high;
    }

    int feed(long eight, int n) {
        if (!in(n, 1, 8)) return -1;
        if (tape.length() + n > 200) return -2;
        for (int i = 0; i < n; i++) {
            tape.append((char) ((eight >>> (8 * i)) & 0xff));
        }
        return tape.length();
    }

    // A reader that goes along the characters themselves.

    private String text;
    private int pos;

    private void blanks() {
        while (pos < text.length() && text.charAt(pos) == ' ') pos++;
    }

    /** The token at pos, behind blanks, "" at the end. */
    private String peek() {
        blanks();
        if (pos >= text.length()) return "";
        String rest = text.substring(pos);
        String name = rest.replaceFirst("(?s)[^a-z].*", "");
        String number = rest.replaceFirst("(?s)[^0-9].*", "");
        return !name.isEmpty() ? name : !number.isEmpty() ? number : rest.substring(0, 1);
    }

    private void want(String token) {
        if (!peek().equals(token)) throw new Fault(pos);
        pos += token.length();
    }

    private boolean maybe(String token) {
        if (!peek().equals(token)) return false;
        pos += token.length();
        return true;
    }

    private String value() {
        String t = peek();
        if (!t.matches("[0-9]{1,3}|warm|wet|size|span|edge|minute")) throw new Fault(pos);
        pos += t.length();
        return t;
    }

    private Cond cond(int open) {
        List<Cond> alls = new ArrayList<>();
        do {
            List<Cond> ones = new ArrayList<>();
            do {
                ones.add(one(open));
            } while (maybe("and"));
            alls.add(v -> ones.stream().allMatch(c -> c.holds(v)));
        } while (maybe("or"));
        return v -> alls.stream().anyMatch(c -> c.holds(v));
    }

    private Cond one(int open) {
        if (maybe("not")) {
            Cond c = one(open);
            return v -> !c.holds(v);
        }
        if (peek().equals("(")) {
            if (open == 3) throw new Fault(pos);
            want("(");
            Cond c = cond(open + 1);
            want(")");
            return c;
        }
        String left = value();
        String sign = peek();
        if (!sign.matches("[<=>]")) throw new Fault(pos);
        pos++;
        String right = value();
        return v -> {
            int l = left.matches("[0-9]+") ? Integer.parseInt(left) : v.get(left);
            int r = right.matches("[0-9]+") ? Integer.parseInt(right) : v.get(right);
            return sign.equals("<") ? l < r : sign.equals(">") ? l > r : l == r;
        };
    }

    int law() {
        text = tape.toString();
        tape.setLength(0);
        pos = 0;
        List<Clause> clauses = new ArrayList<>();
        try {
            while (!peek().isEmpty()) {
                if (clauses.size() == 8) throw new Fault(pos);
                if (maybe("use")) {
                    String n = peek();
                    if (!n.matches("[0-9]{1,3}") || Integer.parseInt(n) > 5) throw new Fault(pos);
                    want(n);
                    Cond c = maybe("if") ? cond(0) : v -> true;
                    clauses.add(new Clause(false, Integer.parseInt(n), c));
                } else {
                    want("pick");
                    want("if");
                    clauses.add(new Clause(true, 0, cond(0)));
                }
                want(";");
            }
        } catch (Fault f) {
            return -100 - f.place;
        }
        now.law = clauses;
        return clauses.size();
    }

    Flake flake(int i) {
        return in(i, 0, 3) ? now.flakes.get(i) : null;
    }

    int begin(int flake) {
        if (flake(flake) == null) return -1;
        int n = flake(flake).ice.size();
        now.flakes.set(flake, beginning());
        return n;
    }

    int cell(int flake, int q, int r) {
        if (flake(flake) == null || !new At(q, r).isCell()) return -1;
        return flake(flake).ice.getOrDefault(new At(q, r), -9);
    }

    int freeze(int flake, int q, int r, boolean is) {
        Flake f = flake(flake);
        At c = new At(q, r);
        if (f == null || !c.isCell()) return -1;
        if (is) return f.ice.putIfAbsent(c, f.minute) == null ? 1 : 0;
        return f.ice.remove(c) != null ? 1 : 0;
    }

    static int span(Flake f) {
        return f.ice.keySet().stream().mapToInt(At::ring).max().orElse(0);
    }

    static int edge(Flake f) {
        int n = 0;
        for (At c : CELLS) {
            for (int k = 0; k < 3; k++) {
                At d = c.towards(k);
                if (d.isCell() && f.ice.containsKey(c) != f.ice.containsKey(d)) n++;
            }
        }
        return n;
    }

    static int holes(Flake f) {
        Set<At> seen = new HashSet<>();
        Deque<At> todo = new ArrayDeque<>();
        for (At c : CELLS) {
            if (c.ring() == 5 && !f.ice.containsKey(c)) {
                todo.add(c);
                seen.add(c);
            }
        }
        while (!todo.isEmpty()) {
            At c = todo.remove();
            for (int k = 0; k < 6; k++) {
                At d = c.towards(k);
                if (d.isCell() && !f.ice.containsKey(d) && seen.add(d)) todo.add(d);
            }
        }
        return CELLS.size() - f.ice.size() - seen.size();
    }

    int size(int flake, int what) {
        Flake f = flake(flake);
        if (f == null || !in(what, 0, 4)) return -1;
        return switch (what) {
            case 0 -> f.ice.size();
            case 1 -> span(f);
            case 2 -> edge(f);
            case 3 -> holes(f);
            default -> f.minute;
        };
    }

    List<At> armCells(Flake f, int k) {
        List<At> arm = new ArrayList<>();
        for (At c = new At(0, 0).towards(k); f.ice.containsKey(c); c = c.towards(k)) arm.add(c);
        return arm;
    }

    int arm(int flake, int k) {
        if (flake(flake) == null || !in(k, 0, 5)) return -1;
        return armCells(flake(flake), k).size();
    }

    int layer(int flake, int minute) {
        if (flake(flake) == null || !in(minute, 0, 60)) return -1;
        return (int) flake(flake).ice.values().stream().filter(m -> m == minute).count();
    }

    static Set<At> image(Set<At> cells, int turn, boolean mirrored) {
        Set<At> out = new HashSet<>();
        for (At c : cells) {
            At d = mirrored ? new At(c.r(), c.q()) : c;
            for (int i = 0; i < turn; i++) d = d.turned();
            out.add(d);
        }
        return out;
    }

    static int difference(Set<At> a, Set<At> b) {
        int n = 0;
        for (At c : CELLS) n += a.contains(c) != b.contains(c) ? 1 : 0;
        return n;
    }

    int unlike(int flake, int turn, boolean mirrored) {
        if (flake(flake) == null || !in(turn, 0, 5)) return -1;
        Set<At> s = flake(flake).ice.keySet();
        return difference(s, image(s, turn, mirrored));
    }

    int apart(int a, int b) {
        if (flake(a) == null || flake(b) == null) return -1;
        int least = 1000;
        for (int turn = 0; turn < 6; turn++) {
            for (boolean m : new boolean[] {true, false}) {
                Set<At> image = image(flake(b).ice.keySet(), turn, m);
                least = Math.min(least, difference(flake(a).ice.keySet(), image));
            }
        }
        return least;
    }

    int copy(int a, int b) {
        if (flake(a) == null || flake(b) == null) return -1;
        now.flakes.set(a, flake(b).copy());
        return flake(a).ice.size();
    }

    int meet(int a, int b, int turn) {
        if (flake(a) == null || flake(b) == null || a == b || !in(turn, 0, 5)) return -1;
        int n = 0;
        for (At c : image(flake(b).ice.keySet(), turn, false)) {
            if (flake(a).ice.putIfAbsent(c, flake(a).minute) == null) n++;
        }
        return n;
    }

    int breaks(int flake, int k) {
        if (flake(flake) == null || !in(k, 0, 5)) return -1;
        List<At> arm = armCells(flake(flake), k);
        arm.forEach(flake(flake).ice::remove);
        return arm.size();
    }

    int growth(int kind, int a) {
        if (!in(kind, 0, 5) || !in(a, 0, 63)) return -1;
        if (now.growths.size() == 6) return -2;
        now.growths.add(new Kind(kind, a));
        return now.growths.size() - 1;
    }

    Kind kindAt(int growth) {
        return in(growth, 0, now.growths.size() - 1) ? now.growths.get(growth) : null;
    }

    int growthOf(int growth, int what) {
        if (kindAt(growth) == null || !in(what, 0, 1)) return -1;
        return what == 0 ? kindAt(growth).kind() : kindAt(growth).a();
    }

    static boolean freezes(int kind, int a, At c, Set<At> ice) {
        int n = 0;
        for (int k = 0; k < 6; k++) {
            if ((kind != 2 || k % 3 == 0) && ice.contains(c.towards(k))) n++;
        }
        boolean axis = c.q() * c.r() * (c.q() + c.r()) == 0;
        boolean plain = n >= 1 && (a >> n - 1) % 2 == 1;
        return switch (kind) {
            case 0, 2 -> plain;
            case 1 -> plain || n >= 4;
            case 3 -> axis && (plain || n >= 4);
            case 4 -> axis ? plain || n >= 4 : n == 1 && c.ring() % 2 == 0;
            default -> plain && c.q() >= 0;
        };
    }

    static List<At> freezing(Set<At> ice, Kind g) {
        List<At> out = new ArrayList<>();
        for (At c : CELLS) {
            if (!ice.contains(c) && freezes(g.kind(), g.a(), c, ice)) out.add(c);
        }
        return out;
    }

    int wouldBe(int flake, int growth) {
        if (flake(flake) == null || kindAt(growth) == null) return -1;
        return freezing(flake(flake).ice.keySet(), kindAt(growth)).size();
    }

    int grow(int flake, int growth) {
        if (flake(flake) == null || kindAt(growth) == null) return -1;
        Flake f = flake(flake);
        if (f.minute == 60) return -4;
        List<At> would = freezing(f.ice.keySet(), kindAt(growth));
        f.minute++;
        int n = 0;
        for (At c : would) {
            if (now.miss > 0) {
                now.z = (int) (now.z * 1103515245L + 12345);
                if ((now.z >>> 16 & 3) < now.miss) continue;
            }
            f.ice.put(c, f.minute);
            n++;
        }
        return n;
    }

    int miss(int m) {
        if (!in(m, 0, 4)) return -1;
        int was = now.miss;
        now.miss = m;
        return was;
    }

    int seed(int v) {
        int was = now.z;
        now.z = v;
        return was;
    }

    int air(int minute, int warm, int wet) {
        if (!in(minute, 0, 23) || !in(warm, 0, 9) || !in(wet, 0, 9)) return -1;
        now.airs[minute] = new int[] {warm, wet};
        return 1;
    }

    int airOf(int minute, int what) {
        if (!in(minute, 0, 23) || !in(what, 0, 1)) return -1;
        return now.airs[minute][what];
    }

    Map<String, Integer> values(Flake f, int warm, int wet) {
        return Map.of("warm", warm, "wet", wet, "size", f.ice.size(), "span", span(f), "edge", edge(f),
            "minute", f.minute);
    }

    int picks(int flake, int warm, int wet) {
        if (flake(flake) == null || !in(warm, 0, 9) || !in(wet, 0, 9)) return -1;
        Map<String, Integer> v = values(flake(flake), warm, wet);
        for (int i = now.law.size() - 1; i >= 0; i--) {
            Clause c = now.law.get(i);
            if (!c.pick() && c.cond().holds(v)) return c.uses();
        }
        return 0;
    }

    int picked(int flake) {
        if (flake(flake) == null) return -1;
        Map<String, Integer> v = values(flake(flake), 0, 0);
        return now.law.stream().anyMatch(c -> c.pick() && c.cond().holds(v)) ? 1 : 0;
    }

    int fall(int flake, int n) {
        if (flake(flake) == null || !in(n, 0, 24)) return -1;
        Flake f = flake(flake);
        for (int i = 0; i < n; i++) {
            if (f.minute == 60) return i;
            int[] air = now.airs[f.minute % 24];
            int g = picks(flake, air[0], air[1]);
            if (kindAt(g) == null) return i;
            grow(flake, g);
        }
        return n;
    }

    long odds(int flake, int growth, int part) {
        if (flake(flake) == null || kindAt(growth) == null || !in(part, 0, 1)) return -1;
        Set<At> ice = flake(flake).ice.keySet();
        List<At> would = freezing(ice, kindAt(growth));
        if (would.size() > 30) return -4;
        BigInteger above = would.size() <= 10 ? countAll(ice, would) : countSixes(ice, would);
        BigInteger below = BigInteger.valueOf(4).pow(would.size());
        BigInteger common = above.gcd(below);
        return (part == 0 ? above : below).divide(common).longValueExact();
    }

    /** Every set of the CELLS that would FREEZE, one after the other. */
    private BigInteger countAll(Set<At> ice, List<At> would) {
        long above = 0;
        for (int bits = 0; bits < 1 << would.size(); bits++) {
            Set<At> s = new HashSet<>(ice);
            long weight = 1;
            for (int i = 0; i < would.size(); i++) {
                if ((bits >> i & 1) == 1) s.add(would.get(i));
                weight *= (bits >> i & 1) == 1 ? 4 - now.miss : now.miss;
            }
            if (image(s, 1, false).equals(s)) above += weight;
        }
        return BigInteger.valueOf(above);
    }

    private BigInteger countSixes(Set<At> ice, List<At> would) {
        BigInteger above = BigInteger.ONE;
        Set<At> done = new HashSet<>();
        for (At c : CELLS) {
            Set<At> six = new HashSet<>();
            for (int t = 0; t < 6; t++) six.addAll(image(Set.of(c), t, false));
            if (!done.addAll(six)) continue;
            long some = 0;
            int w = (int) six.stream().filter(would::contains).count();
            if (six.stream().noneMatch(ice::contains)) some += (long) Math.pow(now.miss, w);
            if (six.stream().allMatch(d -> ice.contains(d) || would.contains(d))) {
                some += (long) Math.pow(4 - now.miss, w);
            }
            above = above.multiply(BigInteger.valueOf(some));
        }
        return above;
    }

    private String search(Set<At> ice, int left, String path, Set<At> wanted) {
        if (left == 0) return ice.equals(wanted) ? path : null;
        for (int k = 0; k < now.growths.size(); k++) {
            Set<At> next = new HashSet<>(ice);
            next.addAll(freezing(ice, now.growths.get(k)));
            String way = search(next, left - 1, k + path, wanted);
            if (way != null) return way;
        }
        return null;
    }

    int found(int flake, int what) {
        if (flake(flake) == null || !in(what, 0, 1)) return -1;
        for (int n = 0; n <= 3; n++) {
            String way = search(beginning().ice.keySet(), n, "", new HashSet<>(flake(flake).ice.keySet()));
            if (way != null) return what == 0 ? n : Integer.parseInt("0" + way, 8);
        }
        return -3;
    }

    int forms(int n) {
        if (!in(n, 0, 3)) return -1;
        if (n > 0 && now.growths.isEmpty()) return -3;
        Set<Set<At>> forms = new HashSet<>();
        forms.add(new HashSet<>(beginning().ice.keySet()));
        for (int i = 0; i < n; i++) {
            Set<Set<At>> next = new HashSet<>();
            for (Set<At> s : forms) {
                for (Kind g : now.growths) {
                    Set<At> t = new HashSet<>(s);
                    t.addAll(freezing(s, g));
                    next.add(t);
                }
            }
            forms = next;
        }
        return forms.size();
    }

    List<int[]> rowsOf(Flake f) {
        TreeMap<Integer, Integer> rings = new TreeMap<>();
        f.ice.keySet().forEach(c -> rings.merge(c.ring(), 1, Integer::sum));
        List<int[]> out = new ArrayList<>();
        rings.forEach((ring, n) -> out.add(new int[] {ring, n}));
        return out;
    }

    int prove(int flake) {
        if (flake(flake) == null) return -1;
        rows = rowsOf(flake(flake));
        return rows.size();
    }

    int row(int i, int what) {
        return in(i, 0, rows.size() - 1) && in(what, 0, 1) ? rows.get(i)[what] : -9;
    }

    int alterRow(int i, int what, int v) {
        int was = row(i, what);
        if (in(i, 0, rows.size() - 1) && in(what, 0, 1)) rows.get(i)[what] = v;
        return was;
    }

    int judge(int flake) {
        if (flake(flake) == null) return -1;
        List<int[]> due = rowsOf(flake(flake));
        for (int i = 0; i < rows.size(); i++) {
            if (i >= due.size() || !java.util.Arrays.equals(due.get(i), rows.get(i))) return i + 1;
        }
        return rows.size() < due.size() ? 222 : 0;
    }

    static int sortOf(Object row) {
        return row instanceof byte[] ? 0 : row instanceof short[] ? 1 : row instanceof int[] ? 2 : 3;
    }

    int copies(int flake, int sheet) {
        if (flake(flake) == null || !in(sheet, 0, 3)) return -1;
        if (sheets[sheet] == null) return -11;
        if (!(sheets[sheet] instanceof int[] items)) return -13;
        Flake f = flake(flake);
        f.ice.clear();
        for (int i = 0; i < 11 && i < items.length; i++) {
            int bit = 0;
            for (int q = -5; q <= 5; q++) {
                At c = new At(q, i - 5);
                if (c.isCell()) {
                    if ((items[i] >> bit & 1) == 1) f.ice.put(c, f.minute);
                    bit++;
                }
            }
        }
        return f.ice.size();
    }

    int sheet(int sheet, int sort, int n) {
        if (!in(sheet, 0, 3) || !in(sort, -1, 3) || (sort >= 0 && n > 40)) return -1;
        if (sort >= 0 && n < 0) return -14;
        sheets[sheet] = switch (sort) {
            case 0 -> new byte[n];
            case 1 -> new short[n];
            case 2 -> new int[n];
            case 3 -> new long[n];
            default -> null;
        };
        return 1;
    }

    int put(int sheet, int i, int v) {
        if (!in(sheet, 0, 3)) return -1;
        Object row = sheets[sheet];
        if (row == null) return -11;
        if (!in(i, 0, java.lang.reflect.Array.getLength(row) - 1)) return -12;
        switch (sortOf(row)) {
            case 0 -> ((byte[]) row)[i] = (byte) v;
            case 1 -> ((short[]) row)[i] = (short) v;
            case 2 -> ((int[]) row)[i] = v;
            default -> ((long[]) row)[i] = v;
        }
        return 1;
    }

    int item(int sheet, int sort, int i) {
        if (!in(sheet, 0, 3) || !in(sort, 0, 3)) return -1;
        Object row = sheets[sheet];
        if (row == null) return -11;
        if (sortOf(row) != sort) return -13;
        if (!in(i, 0, java.lang.reflect.Array.getLength(row) - 1)) return -12;
        return (int) java.lang.reflect.Array.getLong(row, i);
    }

    int shelf(int shelf, int what, int n) {
        if (!in(shelf, 0, 3) || !in(what, 0, 2)) return -1;
        if (what == 0 && kindAt(n) == null || what == 1 && !in(n, 0, 3)) return -1;
        shelves[shelf] = what == 0 ? (Object) n : what == 1 ? sheets[n] : null;
        return 1;
    }

    /** The GROWTH on a SHELF: its number, or -1. */
    int growthOn(int shelf) {
        return in(shelf, 0, 3) && shelves[shelf] instanceof Integer n && kindAt(n) != null ? n : -1;
    }

    int taken(int shelf, int as) {
        if (!in(shelf, 0, 3) || !(in(as, 0, 5) || in(as, 10, 13))) return -1;
        if (shelves[shelf] == null) return -11;
        if (shelves[shelf] instanceof Integer) {
            if (growthOn(shelf) < 0) return -11;
            for (int k = kindAt(growthOn(shelf)).kind(); k >= 0; k = above(k)) {
                if (k == as) return growthOn(shelf);
            }
            return -13;
        }
        if (sortOf(shelves[shelf]) != as - 10) return -13;
        return java.lang.reflect.Array.getLength(shelves[shelf]);
    }

    static int above(int kind) {
        return new int[] {-1, 0, 0, 1, 3, 0}[kind];
    }

    int act(int shelf, int act, int x) {
        trace = new ArrayList<>();
        if (growthOn(shelf) < 0 || !in(act, 0, 3)) return 0;
        n = growthOn(shelf);
        g = kindAt(n);
        try {
            return body(act, g.kind(), x);
        } catch (Fault f) {
            return -15;
        }
    }

    private int n;
    private Kind g;

    private int any(int act, int x) {
        return body(act, g.kind(), x);
    }

    /** The body of an ACT that a KIND has, its own or the nearest above it. */
    private int body(int act, int kind, int x) {
        int name = switch (kind * 10 + act) {
            case 0, 1, 2, 3 -> 10 + act;
            case 11 -> 20;
            case 20 -> 30;
            case 23 -> 31;
            case 30 -> 40;
            case 31 -> 41;
            case 42 -> 50;
            case 40 -> 51;
            case 53 -> 60;
            case 52 -> 61;
            default -> 0;
        };
        int over = above(kind);
        if (name == 0) return body(act, over, x);
        trace.add(name);
        switch (name) {
            case 10: return x + n;
            case 11: return any(0, x) * 2;
            case 12:
                if (g.a() == n) throw new Fault(0);
                return x / (g.a() - n);
            case 13: return any(1, x) ^ g.a();
            case 20: return body(1, over, x) - g.a();
            case 30: return 0 - body(0, over, x);
            case 31: return body(3, over, x) + any(2, n);
            case 40: return body(0, over, x) * 3;
            case 41: return body(1, over, x) + any(0, n);
            case 50: return body(2, over, x + 2) ^ 1;
            case 51: return body(0, over, x) - n;
            case 60: return body(3, over, x) * 2;
            default: return body(2, over, x) + any(0, g.a());
        }
    }

    int trace(int i) {
        return in(i, 0, Math.min(trace.size(), 30) - 1) ? trace.get(i) : -3;
    }

    int many(int what) {
        return switch (what) {
            case 0 -> now.growths.size();
            case 1 -> now.law.size();
            case 2 -> rows.size();
            case 3 -> tape.length();
            case 4 -> Math.min(trace.size(), 30);
            default -> -1;
        };
    }

    int keep() {
        kept = now.copy();
        return 1;
    }

    int again() {
        if (kept == null) return -3;
        now = kept.copy();
        return now.growths.size();
    }
}
