/**
 * Six arms: flakes of cells of sixes that grow minute by minute by growths of kinds that a law
 * picks. ../shared/DOC.md says what each call answers; its words in capitals are used here too.
 */
public final class FlakeArms {
    public static final int BAD = -1, FULL = -2, NONE = -3, STATE = -4;

    private static final int NOTHING_THERE = -11, PLACE_OUTSIDE = -12, OTHER_SORT = -13,
            BELOW_ZERO = -14, PARTED_BY_ZERO = -15;
    private static final int NO_SUCH_ROW = -9, CELL_WITHOUT_ICE = -9, TOO_FEW_ROWS = 222;
    private static final int TAPE_ROOM = 200, SHEET_ROOM = 40, SHEETS = 4, SHELVES = 4;
    private static final int MOST_TO_FREEZE = 30, MOST_MINUTES_BACK = 3;
    /** 1 + 6 + 36 + 216: all ways of up to three MINUTES by six GROWTHS. */
    private static final int WAYS = 259;
    /** What a SHELF holds: nothing, a GROWTH, or from ROW_OF_SORT on a row of a sort. */
    private static final int HOLDS_NOTHING = -1, HOLDS_GROWTH = 0, ROW_OF_SORT = 10;

    private final World now;
    private final World kept;
    private boolean isKept;
    private final byte[] tape = new byte[TAPE_ROOM];
    private int tapeSize;
    private final LawReader reader = new LawReader();
    private final Law draft = new Law();
    private final int[][] rows = new int[Flake.RINGS][2];
    private int rowsProved;
    private final int[][] sheetItems = new int[SHEETS][SHEET_ROOM];
    private final int[] sheetSort = {-1, -1, -1, -1};
    private final int[] sheetSize = new int[SHEETS];
    private final int[] shelfHolds = {HOLDS_NOTHING, HOLDS_NOTHING, HOLDS_NOTHING, HOLDS_NOTHING};
    private final int[] shelfNumber = new int[SHELVES];
    private final Trace bodies = new Trace();
    private final long[] lowOfWay = new long[WAYS];
    private final long[] highOfWay = new long[WAYS];
    private final Flake scratch = new Flake();

    public FlakeArms() {
        now = new World();
        kept = new World();
    }

    // ---- flakes

    public int feed(long eight, int n) {
        if (n < 1 || n > 8) {
            return BAD;
        }
        if (tapeSize + n > TAPE_ROOM) {
            return FULL;
        }
        for (int i = 0; i < n; i++) {
            tape[tapeSize + i] = (byte) (eight >>> (8 * i));
        }
        tapeSize += n;
        return tapeSize;
    }

    public int law() {
        int fault = reader.readLaw(tape, tapeSize, draft);
        tapeSize = 0;
        if (fault >= 0) {
            return -100 - fault;
        }
        now.law.become(draft);
        return now.law.clauses;
    }

    public int begin(int flake) {
        Flake f = flakeAt(flake);
        if (f == null) {
            return BAD;
        }
        int before = f.iceCount();
        f.start();
        return before;
    }

    public int cell(int flake, int q, int r) {
        Flake f = flakeAt(flake);
        int place = Flake.placeOf(q, r);
        if (f == null || place < 0) {
            return BAD;
        }
        return f.hasIce(place) ? f.sinceOf(place) : CELL_WITHOUT_ICE;
    }

    public int freeze(int flake, int q, int r, boolean is) {
        Flake f = flakeAt(flake);
        int place = Flake.placeOf(q, r);
        if (f == null || place < 0) {
            return BAD;
        }
        if (f.hasIce(place) == is) {
            return 0;
        }
        f.setSince(place, is ? f.minute : Flake.NO_ICE);
        return 1;
    }

    public int size(int flake, int what) {
        Flake f = flakeAt(flake);
        if (f == null) {
            return BAD;
        }
        switch (what) {
            case 0: return f.iceCount();
            case 1: return f.span();
            case 2: return f.edge();
            case 3: return f.holes();
            case 4: return f.minute;
            default: return BAD;
        }
    }

    public int arm(int flake, int k) {
        Flake f = flakeAt(flake);
        if (f == null || k < 0 || k >= Flake.TOWARDS.length) {
            return BAD;
        }
        return f.armLength(k);
    }

    public int layer(int flake, int minute) {
        Flake f = flakeAt(flake);
        if (f == null || minute < 0 || minute > Flake.LAST_MINUTE) {
            return BAD;
        }
        return f.iceSince(minute);
    }

    public int unlike(int flake, int turn, boolean mirrored) {
        Flake f = flakeAt(flake);
        if (f == null || !isTurn(turn)) {
            return BAD;
        }
        return f.cellsUnlike(f, turn, mirrored);
    }

    public int apart(int a, int b) {
        Flake one = flakeAt(a);
        Flake other = flakeAt(b);
        if (one == null || other == null) {
            return BAD;
        }
        int least = Flake.CELLS.length;
        for (int turn = 0; turn < 6; turn++) {
            least = Math.min(least, one.cellsUnlike(other, turn, false));
            least = Math.min(least, one.cellsUnlike(other, turn, true));
        }
        return least;
    }

    public int copy(int a, int b) {
        Flake one = flakeAt(a);
        Flake other = flakeAt(b);
        if (one == null || other == null) {
            return BAD;
        }
        one.become(other);
        return one.iceCount();
    }

    public int meet(int a, int b, int turn) {
        Flake one = flakeAt(a);
        Flake other = flakeAt(b);
        if (one == null || other == null || a == b || !isTurn(turn)) {
            return BAD;
        }
        return one.joinTurned(other, turn);
    }

    public int breaks(int flake, int k) {
        Flake f = flakeAt(flake);
        if (f == null || k < 0 || k >= Flake.TOWARDS.length) {
            return BAD;
        }
        return f.breakArm(k);
    }

    // ---- growths, airs

    public int growth(int kind, int a) {
        if (kind < 0 || kind > 5 || a < 0 || a > 63) {
            return BAD;
        }
        if (now.growthCount >= now.growths.length) {
            return FULL;
        }
        int number = now.growthCount;
        now.growths[number] = Growth.ofKind(kind, number, a, bodies);
        now.growthCount++;
        return number;
    }

    public int growthOf(int growth, int what) {
        Growth g = now.growthAt(growth);
        if (g == null || what < 0 || what > 1) {
            return BAD;
        }
        return what == 0 ? g.kind : g.a;
    }

    public int wouldBe(int flake, int growth) {
        Flake f = flakeAt(flake);
        Growth g = now.growthAt(growth);
        if (f == null || g == null) {
            return BAD;
        }
        return g.listFreezing(f, now.freezing);
    }

    public int grow(int flake, int growth) {
        Flake f = flakeAt(flake);
        Growth g = now.growthAt(growth);
        if (f == null || g == null) {
            return BAD;
        }
        if (f.minute >= Flake.LAST_MINUTE) {
            return STATE;
        }
        return now.growBy(f, g);
    }

    public int miss(int m) {
        if (m < 0 || m > 4) {
            return BAD;
        }
        int before = now.missed;
        now.missed = m;
        return before;
    }

    public int seed(int v) {
        int before = now.z;
        now.z = v;
        return before;
    }

    public int air(int minute, int warm, int wet) {
        if (minute < 0 || minute >= World.AIRS || !isAir(warm, wet)) {
            return BAD;
        }
        now.warmOf[minute] = warm;
        now.wetOf[minute] = wet;
        return 1;
    }

    public int airOf(int minute, int what) {
        if (minute < 0 || minute >= World.AIRS || what < 0 || what > 1) {
            return BAD;
        }
        return what == 0 ? now.warmOf[minute] : now.wetOf[minute];
    }

    public int picks(int flake, int warm, int wet) {
        Flake f = flakeAt(flake);
        if (f == null || !isAir(warm, wet)) {
            return BAD;
        }
        return now.growthFor(f, warm, wet);
    }

    public int picked(int flake) {
        Flake f = flakeAt(flake);
        if (f == null) {
            return BAD;
        }
        return now.isPicked(f) ? 1 : 0;
    }

    public int fall(int flake, int n) {
        Flake f = flakeAt(flake);
        if (f == null || n < 0 || n > World.AIRS) {
            return BAD;
        }
        return now.letFall(f, n);
    }

    // ---- what came, what can come

    public long odds(int flake, int growth, int part) {
        Flake f = flakeAt(flake);
        Growth g = now.growthAt(growth);
        if (f == null || g == null || part < 0 || part > 1) {
            return BAD;
        }
        if (g.listFreezing(f, now.freezing) > MOST_TO_FREEZE) {
            return STATE;
        }
        return oddsOfAlike(f, g, part);
    }

    public int found(int flake, int what) {
        Flake f = flakeAt(flake);
        if (f == null || what < 0 || what > 1) {
            return BAD;
        }
        int g = now.growthCount;
        int parents = 1 + g + g * g;
        int ways = parents + g * g * g;
        long low = f.bits(0);
        long high = f.bits(1);
        startWays();
        for (int way = 0; way < ways && way < WAYS; way++) {
            if (lowOfWay[way] == low && highOfWay[way] == high) {
                return what == 0 ? minutesOfWay(way) : growthsOfWay(way);
            }
            if (way < parents) {
                goOn(way);
            }
        }
        return NONE;
    }

    public int forms(int n) {
        if (n < 0 || n > MOST_MINUTES_BACK) {
            return BAD;
        }
        if (n > 0 && now.growthCount == 0) {
            return NONE;
        }
        int first = 0;
        int many = 1;
        startWays();
        for (int minute = 0; minute < n; minute++) {
            for (int way = first; way < first + many; way++) {
                goOn(way);
            }
            first += many;
            many *= now.growthCount;
        }
        return differentWays(first, first + many);
    }

    // ---- rows

    public int prove(int flake) {
        Flake f = flakeAt(flake);
        if (f == null) {
            return BAD;
        }
        rowsProved = 0;
        for (int ring = 0; ring < Flake.RINGS; ring++) {
            int ice = f.iceOfRing(ring);
            if (ice > 0 && rowsProved < rows.length) {
                rows[rowsProved][0] = ring;
                rows[rowsProved][1] = ice;
                rowsProved++;
            }
        }
        return rowsProved;
    }

    public int row(int i, int what) {
        return isInRows(i, what) ? rows[i][what] : NO_SUCH_ROW;
    }

    public int alterRow(int i, int what, int v) {
        if (!isInRows(i, what)) {
            return NO_SUCH_ROW;
        }
        int before = rows[i][what];
        rows[i][what] = v;
        return before;
    }

    public int judge(int flake) {
        Flake f = flakeAt(flake);
        if (f == null) {
            return BAD;
        }
        int due = 0;
        for (int ring = 0; ring < Flake.RINGS; ring++) {
            int ice = f.iceOfRing(ring);
            if (ice > 0) {
                if (due < rowsProved && (rows[due][0] != ring || rows[due][1] != ice)) {
                    return due + 1;
                }
                due++;
            }
        }
        if (rowsProved > due) {
            return due + 1;
        }
        return rowsProved < due ? TOO_FEW_ROWS : 0;
    }

    public int copies(int flake, int sheet) {
        Flake f = flakeAt(flake);
        if (f == null || !isSheet(sheet)) {
            return BAD;
        }
        if (sheetSort[sheet] < 0) {
            return NOTHING_THERE;
        }
        if (sheetSort[sheet] != 2) {
            return OTHER_SORT;
        }
        return f.takeRows(sheetItems[sheet], sheetSize[sheet]);
    }

    // ---- the host

    public int sheet(int sheet, int sort, int n) {
        if (!isSheet(sheet) || sort < -1 || sort > 3 || (sort >= 0 && n > SHEET_ROOM)) {
            return BAD;
        }
        if (sort >= 0 && n < 0) {
            return BELOW_ZERO;
        }
        sheetSort[sheet] = sort;
        sheetSize[sheet] = sort < 0 ? 0 : n;
        for (int i = 0; i < SHEET_ROOM; i++) {
            sheetItems[sheet][i] = 0;
        }
        return 1;
    }

    public int put(int sheet, int i, int v) {
        if (!isSheet(sheet)) {
            return BAD;
        }
        if (sheetSort[sheet] < 0) {
            return NOTHING_THERE;
        }
        if (i < 0 || i >= sheetSize[sheet]) {
            return PLACE_OUTSIDE;
        }
        sheetItems[sheet][i] = narrowed(v, sheetSort[sheet]);
        return 1;
    }

    public int item(int sheet, int sort, int i) {
        if (!isSheet(sheet) || sort < 0 || sort > 3) {
            return BAD;
        }
        if (sheetSort[sheet] < 0) {
            return NOTHING_THERE;
        }
        if (sheetSort[sheet] != sort) {
            return OTHER_SORT;
        }
        if (i < 0 || i >= sheetSize[sheet]) {
            return PLACE_OUTSIDE;
        }
        return sheetItems[sheet][i];
    }

    public int shelf(int shelf, int what, int n) {
        if (!isShelf(shelf) || what < 0 || what > 2) {
            return BAD;
        }
        if ((what == 0 && now.growthAt(n) == null) || (what == 1 && !isSheet(n))) {
            return BAD;
        }
        shelfHolds[shelf] = HOLDS_NOTHING;
        if (what == 0) {
            shelfHolds[shelf] = HOLDS_GROWTH;
            shelfNumber[shelf] = n;
        }
        if (what == 1 && sheetSort[n] >= 0) {
            // A row keeps its sort and its length, whatever its SHEET becomes later.
            shelfHolds[shelf] = ROW_OF_SORT + sheetSort[n];
            shelfNumber[shelf] = sheetSize[n];
        }
        return 1;
    }

    public int taken(int shelf, int as) {
        boolean asKind = as >= 0 && as <= 5;
        boolean asRow = as >= ROW_OF_SORT && as <= ROW_OF_SORT + 3;
        if (!isShelf(shelf) || (!asKind && !asRow)) {
            return BAD;
        }
        if (shelfHolds[shelf] >= ROW_OF_SORT) {
            return shelfHolds[shelf] == as ? shelfNumber[shelf] : OTHER_SORT;
        }
        Growth g = growthOn(shelf);
        if (g == null) {
            return NOTHING_THERE;
        }
        return asKind && g.isOfKind(as) ? g.number : OTHER_SORT;
    }

    public int act(int shelf, int act, int x) {
        bodies.clear();
        Growth g = growthOn(shelf);
        if (g == null) {
            return 0;
        }
        int answer = 0;
        switch (act) {
            case 0: answer = g.grows(x); break;
            case 1: answer = g.takes(x); break;
            case 2: answer = g.shares(x); break;
            case 3: answer = g.tells(x); break;
            default: break;
        }
        return bodies.parted ? PARTED_BY_ZERO : answer;
    }

    public int trace(int i) {
        return i >= 0 && i < bodies.count ? bodies.numbers[i] : NONE;
    }

    public int many(int what) {
        switch (what) {
            case 0: return now.growthCount;
            case 1: return now.law.clauses;
            case 2: return rowsProved;
            case 3: return tapeSize;
            case 4: return bodies.count;
            default: return BAD;
        }
    }

    // ---- kept

    public int keep() {
        kept.become(now);
        isKept = true;
        return 1;
    }

    public int again() {
        if (!isKept) {
            return NONE;
        }
        now.become(kept);
        return now.growthCount;
    }

    // ---- helpers

    private Flake flakeAt(int flake) {
        return flake >= 0 && flake < now.flakes.length ? now.flakes[flake] : null;
    }

    private static boolean isTurn(int turn) {
        return turn >= 0 && turn <= 5;
    }

    private static boolean isAir(int warm, int wet) {
        return warm >= 0 && warm <= 9 && wet >= 0 && wet <= 9;
    }

    private static boolean isSheet(int sheet) {
        return sheet >= 0 && sheet < SHEETS;
    }

    private static boolean isShelf(int shelf) {
        return shelf >= 0 && shelf < SHELVES;
    }

    private boolean isInRows(int i, int what) {
        return i >= 0 && i < rowsProved && what >= 0 && what <= 1;
    }

    private static int narrowed(int v, int sort) {
        switch (sort) {
            case 0: return (byte) v;
            case 1: return (short) v;
            default: return v;
        }
    }

    private Growth growthOn(int shelf) {
        if (!isShelf(shelf) || shelfHolds[shelf] != HOLDS_GROWTH) {
            return null;
        }
        return now.growthAt(shelfNumber[shelf]);
    }

    /** Each six CELLS that turn into one another stay alike apart from the other sixes. */
    private long oddsOfAlike(Flake f, Growth g, int part) {
        long above = 1;
        long below = 1;
        for (int place : Flake.CELLS) {
            if (Flake.qOf(place) > 0 && Flake.rOf(place) >= 0) {
                int ice = 0;
                int freezing = 0;
                for (int turn = 0; turn < 6; turn++) {
                    int turned = Flake.imageOf(place, turn, false);
                    ice += f.hasIce(turned) ? 1 : 0;
                    freezing += g.wouldFreeze(f, turned) ? 1 : 0;
                }
                above *= alikeChances(ice, freezing);
                below *= power(4, freezing);
            }
        }
        // below is a power of 2, so that halves are all that can be common.
        for (int half = 0; half < 62 && below > 1 && (above & 1) == 0; half++) {
            above >>= 1;
            below >>= 1;
        }
        return part == 0 ? above : below;
    }

    /** Of the 4 to the freezing-th chances of six CELLS: in how many all or none have ICE. */
    private long alikeChances(int ice, int freezing) {
        long chances = 0;
        if (ice == 0) {
            chances += power(now.missed, freezing);
        }
        if (ice + freezing == 6) {
            chances += power(4 - now.missed, freezing);
        }
        return chances;
    }

    private static long power(long base, int exponent) {
        long product = 1;
        for (int i = 0; i < exponent; i++) {
            product *= base;
        }
        return product;
    }

    /** Ways form a tree: way w goes on, by GROWTH k of g, to way w * g + 1 + k. */
    private void startWays() {
        scratch.start();
        lowOfWay[0] = scratch.bits(0);
        highOfWay[0] = scratch.bits(1);
    }

    private void goOn(int way) {
        if (way < 0 || way >= WAYS) {
            return;
        }
        scratch.takeBits(lowOfWay[way], highOfWay[way]);
        for (int k = 0; k < now.growthCount; k++) {
            int next = way * now.growthCount + 1 + k;
            Growth g = now.growthAt(k);
            if (g != null && next < WAYS) {
                lowOfWay[next] = lowOfWay[way] | g.freezingBits(scratch, 0);
                highOfWay[next] = highOfWay[way] | g.freezingBits(scratch, 1);
            }
        }
    }

    private int minutesOfWay(int way) {
        int minutes = 0;
        int w = way;
        while (w > 0 && now.growthCount > 0 && minutes < MOST_MINUTES_BACK) {
            w = (w - 1) / now.growthCount;
            minutes++;
        }
        return minutes;
    }

    private int growthsOfWay(int way) {
        int digits = 0;
        int w = way;
        for (int minute = 0; w > 0 && now.growthCount > 0 && minute < MOST_MINUTES_BACK; minute++) {
            digits = digits * 8 + (w - 1) % now.growthCount;
            w = (w - 1) / now.growthCount;
        }
        return digits;
    }

    private int differentWays(int from, int to) {
        int different = 0;
        for (int way = from; way < to && way < WAYS; way++) {
            boolean isNew = true;
            for (int other = from; other < way && isNew; other++) {
                isNew = lowOfWay[other] != lowOfWay[way] || highOfWay[other] != highOfWay[way];
            }
            different += isNew ? 1 : 0;
        }
        return different;
    }

    /**
     * A FLAKE on 13 by 13 places: places that are no CELLS lie all around the CELLS, so that
     * every CELL has six places beside it.
     */
    static final class Flake {
        static final int RINGS = 6, LAST_MINUTE = 60, NO_ICE = -1;
        private static final int WIDE = 13, MIDDLE = 6, FARTHEST = 5, NO_CELL = -2, CENTER = 84;
        /** The places of the 91 CELLS in their order. */
        static final int[] CELLS = {
            19, 20, 21, 22, 23, 24,
            31, 32, 33, 34, 35, 36, 37,
            43, 44, 45, 46, 47, 48, 49, 50,
            55, 56, 57, 58, 59, 60, 61, 62, 63,
            67, 68, 69, 70, 71, 72, 73, 74, 75, 76,
            79, 80, 81, 82, 83, 84, 85, 86, 87, 88, 89,
            92, 93, 94, 95, 96, 97, 98, 99, 100, 101,
            105, 106, 107, 108, 109, 110, 111, 112, 113,
            118, 119, 120, 121, 122, 123, 124, 125,
            131, 132, 133, 134, 135, 136, 137,
            144, 145, 146, 147, 148, 149};
        /** From a place to the one beside it towards 0 to 5. */
        static final int[] TOWARDS = {1, 13, 12, -1, -13, -12};

        int minute;
        private final int[] since = new int[WIDE * WIDE];
        private final byte[] reached = new byte[WIDE * WIDE];

        Flake() {
            for (int place = 0; place < since.length; place++) {
                since[place] = placeOf(qOf(place), rOf(place)) < 0 ? NO_CELL : NO_ICE;
            }
            setSince(CENTER, 0);
        }

        static int placeOf(int q, int r) {
            boolean isNear = q >= -FARTHEST && q <= FARTHEST && r >= -FARTHEST && r <= FARTHEST;
            if (!isNear || q + r < -FARTHEST || q + r > FARTHEST) {
                return -1;
            }
            return (r + MIDDLE) * WIDE + q + MIDDLE;
        }

        static int qOf(int place) {
            return place % WIDE - MIDDLE;
        }

        static int rOf(int place) {
            return place / WIDE - MIDDLE;
        }

        static int ringOf(int place) {
            return ring(qOf(place), rOf(place));
        }

        static int ring(int q, int r) {
            return Math.max(Math.max(Math.abs(q), Math.abs(r)), Math.abs(q + r));
        }

        static int imageOf(int place, int turn, boolean mirrored) {
            int q = mirrored ? rOf(place) : qOf(place);
            int r = mirrored ? qOf(place) : rOf(place);
            for (int i = 0; i < turn; i++) {
                int sum = q + r;
                q = 0 - r;
                r = sum;
            }
            return placeOf(q, r);
        }

        void start() {
            for (int place : CELLS) {
                setSince(place, NO_ICE);
            }
            setSince(CENTER, 0);
            minute = 0;
        }

        void become(Flake other) {
            System.arraycopy(other.since, 0, since, 0, since.length);
            minute = other.minute;
        }

        void setSince(int place, int when) {
            if (place >= 0 && place < since.length && since[place] != NO_CELL) {
                since[place] = when;
            }
        }

        int sinceOf(int place) {
            return place >= 0 && place < since.length ? since[place] : NO_CELL;
        }

        boolean hasIce(int place) {
            return place >= 0 && place < since.length && since[place] >= 0;
        }

        /** How many of the two CELLS beside one towards 0 and 3 have ICE. */
        int iceAlong(int place) {
            return (hasIce(place + TOWARDS[0]) ? 1 : 0) + (hasIce(place + TOWARDS[3]) ? 1 : 0);
        }

        int iceBeside(int place) {
            int n = 0;
            for (int step : TOWARDS) {
                n += hasIce(place + step) ? 1 : 0;
            }
            return n;
        }

        int iceCount() {
            int ice = 0;
            for (int place : CELLS) {
                ice += hasIce(place) ? 1 : 0;
            }
            return ice;
        }

        int iceSince(int when) {
            int ice = 0;
            for (int place : CELLS) {
                ice += sinceOf(place) == when ? 1 : 0;
            }
            return ice;
        }

        int iceOfRing(int ring) {
            int ice = 0;
            for (int place : CELLS) {
                ice += ringOf(place) == ring && hasIce(place) ? 1 : 0;
            }
            return ice;
        }

        int span() {
            int span = 0;
            for (int place : CELLS) {
                if (hasIce(place)) {
                    span = Math.max(span, ringOf(place));
                }
            }
            return span;
        }

        /** Each such pair is met once: from its CELL with ICE. */
        int edge() {
            int pairs = 0;
            for (int place : CELLS) {
                if (hasIce(place)) {
                    for (int step : TOWARDS) {
                        pairs += isBare(place + step) ? 1 : 0;
                    }
                }
            }
            return pairs;
        }

        private boolean isBare(int place) {
            return sinceOf(place) == NO_ICE;
        }

        /** Goes in from the outermost RING until a sweep over all CELLS reaches no new one. */
        int holes() {
            int bare = CELLS.length - iceCount();
            for (int place : CELLS) {
                reached[place] = 0;
            }
            boolean goesOn = true;
            for (int sweep = 0; sweep <= CELLS.length && goesOn; sweep++) {
                goesOn = false;
                for (int place : CELLS) {
                    if (reached[place] == 0 && isBare(place) && isOpen(place)) {
                        reached[place] = 1;
                        bare--;
                        goesOn = true;
                    }
                }
            }
            return bare;
        }

        private boolean isOpen(int place) {
            boolean open = ringOf(place) == FARTHEST;
            for (int step : TOWARDS) {
                int beside = place + step;
                open = open || (beside >= 0 && beside < reached.length && reached[beside] == 1);
            }
            return open;
        }

        int armLength(int k) {
            int length = 0;
            while (length < FARTHEST && hasIce(placeOnArm(k, length + 1))) {
                length++;
            }
            return length;
        }

        int breakArm(int k) {
            int length = armLength(k);
            for (int far = 1; far <= length; far++) {
                setSince(placeOnArm(k, far), NO_ICE);
            }
            return length;
        }

        private static int placeOnArm(int k, int far) {
            return k >= 0 && k < TOWARDS.length ? CENTER + TOWARDS[k] * far : -1;
        }

        /** How many CELLS have ICE in just one of this FLAKE and what the other one comes to. */
        int cellsUnlike(Flake other, int turn, boolean mirrored) {
            int unlike = 0;
            for (int place : CELLS) {
                unlike += hasIce(imageOf(place, turn, mirrored)) != other.hasIce(place) ? 1 : 0;
            }
            return unlike;
        }

        int joinTurned(Flake other, int turn) {
            int joined = 0;
            for (int place : CELLS) {
                int turned = imageOf(place, turn, false);
                if (other.hasIce(place) && isBare(turned)) {
                    setSince(turned, minute);
                    joined++;
                }
            }
            return joined;
        }

        /** Items tell the CELLS of one r each, the bits of an item its q from the least on. */
        int takeRows(int[] items, int n) {
            int ice = 0;
            for (int place : CELLS) {
                int r = rOf(place);
                int i = r + FARTHEST;
                int bit = qOf(place) - Math.max(-FARTHEST, -FARTHEST - r);
                boolean told = i >= 0 && i < n && i < items.length && ((items[i] >>> bit) & 1) == 1;
                setSince(place, told ? minute : NO_ICE);
                ice += told ? 1 : 0;
            }
            return ice;
        }

        /** The first 64 CELLS (half 0) or the others (half 1) as bits, in their order. */
        long bits(int half) {
            long bits = 0;
            for (int i = half * 64; i < CELLS.length && i < half * 64 + 64; i++) {
                bits |= hasIce(CELLS[i]) ? 1L << (i & 63) : 0;
            }
            return bits;
        }

        void takeBits(long low, long high) {
            for (int i = 0; i < CELLS.length; i++) {
                long bits = i < 64 ? low : high;
                setSince(CELLS[i], ((bits >>> (i & 63)) & 1) == 1 ? 0 : NO_ICE);
            }
        }
    }

    /** The numbers of the bodies that ran in the latest act(). */
    static final class Trace {
        static final int MOST = 30;

        final int[] numbers = new int[MOST];
        int count;
        boolean parted;

        void clear() {
            count = 0;
            parted = false;
        }
    }

    /**
     * KIND 0, and what the other KINDS stand under. Each body writes its number into THE TRACE
     * itself: the bodies alone go as deep as calls may.
     */
    static class Growth {
        /** The bits of an A by which a CELL FREEZES with 4, 5 and 6 beside it. */
        static final int FOUR_OR_MORE = 56;

        final int kind;
        final int number;
        final int a;
        final Trace ran;

        Growth(int kind, int number, int a, Trace ran) {
            this.kind = kind;
            this.number = number;
            this.a = a;
            this.ran = ran;
        }

        static Growth ofKind(int kind, int number, int a, Trace ran) {
            switch (kind) {
                case 1: return new Plated(kind, number, a, ran);
                case 2: return new Needled(kind, number, a, ran);
                case 3: return new Armed(kind, number, a, ran);
                case 4: return new Sided(kind, number, a, ran);
                case 5: return new Broken(kind, number, a, ran);
                default: return new Growth(kind, number, a, ran);
            }
        }

        final boolean isOfKind(int as) {
            switch (as) {
                case 0: return true;
                case 1: return this instanceof Plated;
                case 2: return this instanceof Needled;
                case 3: return this instanceof Armed;
                case 4: return this instanceof Sided;
                case 5: return this instanceof Broken;
                default: return false;
            }
        }

        final boolean wouldFreeze(Flake f, int place) {
            if (f.hasIce(place)) {
                return false;
            }
            int q = Flake.qOf(place);
            int r = Flake.rOf(place);
            return freezes(q, r, f.iceBeside(place), f.iceAlong(place));
        }

        /** Lists the places of all CELLS that would FREEZE, in order: how many. */
        final int listFreezing(Flake f, int[] list) {
            int n = 0;
            for (int place : Flake.CELLS) {
                if (n < list.length && wouldFreeze(f, place)) {
                    list[n] = place;
                    n++;
                }
            }
            return n;
        }

        final long freezingBits(Flake f, int half) {
            long bits = 0;
            for (int i = half * 64; i >= 0 && i < Flake.CELLS.length && i < half * 64 + 64; i++) {
                bits |= wouldFreeze(f, Flake.CELLS[i]) ? 1L << (i & 63) : 0;
            }
            return bits;
        }

        /** Whether a CELL without ICE FREEZES: along counts towards 0 and 3 alone. */
        boolean freezes(int q, int r, int beside, int along) {
            return isInBits(beside, a);
        }

        static boolean isInBits(int n, int bits) {
            return n > 0 && ((bits >> (n - 1)) & 1) == 1;
        }

        static boolean isOnArm(int q, int r) {
            return q == 0 || r == 0 || q + r == 0;
        }

        int grows(int x) {
            if (ran.count < Trace.MOST) {
                ran.numbers[ran.count++] = 10;
            }
            return x + number;
        }

        int takes(int x) {
            if (ran.count < Trace.MOST) {
                ran.numbers[ran.count++] = 11;
            }
            return grows(x) * 2;
        }

        int shares(int x) {
            if (ran.count < Trace.MOST) {
                ran.numbers[ran.count++] = 12;
            }
            int by = a - number;
            ran.parted = by == 0;
            return by == 0 ? 0 : x / by;
        }

        int tells(int x) {
            if (ran.count < Trace.MOST) {
                ran.numbers[ran.count++] = 13;
            }
            return takes(x) ^ a;
        }
    }

    static class Plated extends Growth {
        Plated(int kind, int number, int a, Trace ran) {
            super(kind, number, a, ran);
        }

        boolean freezes(int q, int r, int beside, int along) {
            return isInBits(beside, a | FOUR_OR_MORE);
        }

        int takes(int x) {
            if (ran.count < Trace.MOST) {
                ran.numbers[ran.count++] = 20;
            }
            return super.takes(x) - a;
        }
    }

    static final class Needled extends Growth {
        Needled(int kind, int number, int a, Trace ran) {
            super(kind, number, a, ran);
        }

        boolean freezes(int q, int r, int beside, int along) {
            return isInBits(along, a);
        }

        int grows(int x) {
            if (ran.count < Trace.MOST) {
                ran.numbers[ran.count++] = 30;
            }
            return 0 - super.grows(x);
        }

        int tells(int x) {
            if (ran.count < Trace.MOST) {
                ran.numbers[ran.count++] = 31;
            }
            int told = super.tells(x);
            return told + shares(number);
        }
    }

    static class Armed extends Plated {
        Armed(int kind, int number, int a, Trace ran) {
            super(kind, number, a, ran);
        }

        boolean freezes(int q, int r, int beside, int along) {
            return isOnArm(q, r) && isInBits(beside, a | FOUR_OR_MORE);
        }

        int grows(int x) {
            if (ran.count < Trace.MOST) {
                ran.numbers[ran.count++] = 40;
            }
            return super.grows(x) * 3;
        }

        int takes(int x) {
            if (ran.count < Trace.MOST) {
                ran.numbers[ran.count++] = 41;
            }
            int taken = super.takes(x);
            return taken + grows(number);
        }
    }

    static final class Sided extends Armed {
        Sided(int kind, int number, int a, Trace ran) {
            super(kind, number, a, ran);
        }

        boolean freezes(int q, int r, int beside, int along) {
            if (isOnArm(q, r)) {
                return isInBits(beside, a | FOUR_OR_MORE);
            }
            return beside == 1 && Flake.ring(q, r) % 2 == 0;
        }

        int shares(int x) {
            if (ran.count < Trace.MOST) {
                ran.numbers[ran.count++] = 50;
            }
            return super.shares(x + 2) ^ 1;
        }

        int grows(int x) {
            if (ran.count < Trace.MOST) {
                ran.numbers[ran.count++] = 51;
            }
            return super.grows(x) - number;
        }
    }

    static final class Broken extends Growth {
        Broken(int kind, int number, int a, Trace ran) {
            super(kind, number, a, ran);
        }

        boolean freezes(int q, int r, int beside, int along) {
            return q >= 0 && isInBits(beside, a);
        }

        int tells(int x) {
            if (ran.count < Trace.MOST) {
                ran.numbers[ran.count++] = 60;
            }
            return super.tells(x) * 2;
        }

        int shares(int x) {
            if (ran.count < Trace.MOST) {
                ran.numbers[ran.count++] = 61;
            }
            int shared = super.shares(x);
            // Once parted by 0 no other body may begin.
            return ran.parted ? 0 : shared + grows(a);
        }
    }

    /** THE LAW: each CLAUSE with its COND as code that runs on a stack of bits. */
    static final class Law {
        static final int MOST_CLAUSES = 8, PICK = -1;
        static final int NOT = -1, AND = -2, OR = -3;
        /** A VALUE from here on is one of the flake and the air, below it a NUMBER. */
        static final int FIRST_NAMED = 1000;
        private static final int VALUE_BITS = 10, VALUE_MASK = 1023;

        int clauses;
        private final int[] used = new int[MOST_CLAUSES];
        private final int[] codeEnd = new int[MOST_CLAUSES];
        private final int[] code = new int[TAPE_ROOM];
        private int codeSize;

        void clear() {
            clauses = 0;
            codeSize = 0;
        }

        void become(Law other) {
            clauses = other.clauses;
            codeSize = other.codeSize;
            System.arraycopy(other.used, 0, used, 0, used.length);
            System.arraycopy(other.codeEnd, 0, codeEnd, 0, codeEnd.length);
            System.arraycopy(other.code, 0, code, 0, code.length);
        }

        static int comparison(int left, int sign, int right) {
            return (((sign << VALUE_BITS) | left) << VALUE_BITS) | right;
        }

        void addCode(int step) {
            if (codeSize < code.length) {
                code[codeSize] = step;
                codeSize++;
            }
        }

        /** Ends a CLAUSE: the code since the one before it is its COND (none: it holds). */
        void addClause(int uses) {
            if (clauses < MOST_CLAUSES) {
                used[clauses] = uses;
                codeEnd[clauses] = codeSize;
                clauses++;
            }
        }

        int lastUsed(int[] named) {
            int last = 0;
            for (int i = 0; i < clauses && i < MOST_CLAUSES; i++) {
                if (used[i] != PICK && holds(i, named)) {
                    last = used[i];
                }
            }
            return last;
        }

        boolean isSomePick(int[] named) {
            boolean some = false;
            for (int i = 0; i < clauses && i < MOST_CLAUSES; i++) {
                some = some || (used[i] == PICK && holds(i, named));
            }
            return some;
        }

        /** The stack's top is bit 0; at most ten bits are in use, as 3 "(" at most are open. */
        private boolean holds(int clause, int[] named) {
            int stack = 1;
            int first = clause > 0 ? codeEnd[clause - 1] : 0;
            for (int i = first; i < codeEnd[clause] && i < code.length; i++) {
                int top = stack & 1;
                switch (code[i]) {
                    case NOT:
                        stack ^= 1;
                        break;
                    case AND:
                        stack = (stack >>> 1) & (top | ~1);
                        break;
                    case OR:
                        stack = (stack >>> 1) | top;
                        break;
                    default:
                        stack = (stack << 1) | (isTrue(code[i], named) ? 1 : 0);
                        break;
                }
            }
            return (stack & 1) == 1;
        }

        private static boolean isTrue(int comparison, int[] named) {
            int left = valueOf((comparison >>> VALUE_BITS) & VALUE_MASK, named);
            int right = valueOf(comparison & VALUE_MASK, named);
            switch (comparison >>> (2 * VALUE_BITS)) {
                case 0: return left < right;
                case 1: return left == right;
                default: return left > right;
            }
        }

        private static int valueOf(int value, int[] named) {
            int name = value - FIRST_NAMED;
            return name >= 0 && name < named.length ? named[name] : value;
        }
    }

    /** Reads a TEXT: first parts it into NAMES, NUMBERS and other bytes, then takes these. */
    static final class LawReader {
        /** Sorts of tokens; another byte is of the sort of its own number, 0 to 255. */
        private static final int END = 256, USE = 257, PICK = 258, IF = 259, OR = 260, AND = 261,
                NOT = 262, VALUE = 263, UNFIT = 264;
        private static final int MOST_OPEN = 3, MOST_USED = 5, MOST_DIGITS = 3;

        private final byte[] text = new byte[TAPE_ROOM];
        private int textSize;
        private final int[] sorts = new int[TAPE_ROOM + 1];
        private final int[] starts = new int[TAPE_ROOM + 1];
        private final int[] values = new int[TAPE_ROOM + 1];
        private int at;
        private Law law;

        /** Reads a TEXT into a LAW: its FAULT, or -1 if it has none. */
        int readLaw(byte[] tape, int size, Law into) {
            textSize = Math.max(0, Math.min(Math.min(size, tape.length), text.length));
            System.arraycopy(tape, 0, text, 0, textSize);
            splitText();
            at = 0;
            law = into;
            law.clear();
            boolean fits = true;
            for (int clause = 0; clause < Law.MOST_CLAUSES && fits && !isHere(END); clause++) {
                fits = readClause();
            }
            return isHere(END) && fits ? -1 : faultHere();
        }

        private void splitText() {
            int tokens = 0;
            int place = 0;
            while (place < textSize && tokens < TAPE_ROOM) {
                if (text[place] == ' ') {
                    place++;
                } else {
                    int letters = runOf(place, 'a', 'z');
                    int digits = runOf(place, '0', '9');
                    starts[tokens] = place;
                    setToken(tokens, place, letters, digits);
                    tokens++;
                    place += Math.max(1, letters + digits);
                }
            }
            starts[tokens] = textSize;
            sorts[tokens] = END;
        }

        private int runOf(int from, char least, char most) {
            int place = from;
            while (place < textSize && text[place] >= least && text[place] <= most) {
                place++;
            }
            return place - from;
        }

        private void setToken(int token, int place, int letters, int digits) {
            values[token] = -1;
            if (letters > 0) {
                values[token] = namedValue(place, letters);
                sorts[token] = values[token] < 0 ? wordSort(place, letters) : VALUE;
            } else if (digits > 0) {
                values[token] = digits > MOST_DIGITS ? -1 : number(place, digits);
                sorts[token] = values[token] < 0 ? UNFIT : VALUE;
            } else {
                sorts[token] = text[place] & 255;
            }
        }

        private int number(int from, int digits) {
            int number = 0;
            for (int place = from; place < from + digits && place < textSize; place++) {
                number = number * 10 + (text[place] - '0');
            }
            return number;
        }

        private int wordSort(int place, int letters) {
            if (isSpelled("use", place, letters)) {
                return USE;
            }
            if (isSpelled("pick", place, letters)) {
                return PICK;
            }
            if (isSpelled("if", place, letters)) {
                return IF;
            }
            if (isSpelled("or", place, letters)) {
                return OR;
            }
            if (isSpelled("and", place, letters)) {
                return AND;
            }
            return isSpelled("not", place, letters) ? NOT : UNFIT;
        }

        /** What a NAME stands for, in the order of World.nameValues(); -1 for another NAME. */
        private int namedValue(int place, int letters) {
            if (isSpelled("warm", place, letters)) {
                return Law.FIRST_NAMED;
            }
            if (isSpelled("wet", place, letters)) {
                return Law.FIRST_NAMED + 1;
            }
            if (isSpelled("size", place, letters)) {
                return Law.FIRST_NAMED + 2;
            }
            if (isSpelled("span", place, letters)) {
                return Law.FIRST_NAMED + 3;
            }
            if (isSpelled("edge", place, letters)) {
                return Law.FIRST_NAMED + 4;
            }
            return isSpelled("minute", place, letters) ? Law.FIRST_NAMED + 5 : -1;
        }

        private boolean isSpelled(String name, int place, int letters) {
            boolean same = name.length() == letters;
            for (int i = 0; same && i < name.length() && place + i < textSize; i++) {
                same = text[place + i] == name.charAt(i);
            }
            return same;
        }

        // The readers below stop at the token that can't stand there: its start is the FAULT.

        private boolean isHere(int sort) {
            return at >= 0 && at < sorts.length && sorts[at] == sort;
        }

        private int faultHere() {
            return at >= 0 && at < starts.length ? starts[at] : textSize;
        }

        /** Goes past a token of this sort (none goes past the END); whether it is here. */
        private boolean skip(int sort) {
            boolean isIt = at >= 0 && at < sorts.length && sorts[at] == sort;
            at += isIt ? 1 : 0;
            return isIt;
        }

        private int valueHere() {
            return at >= 0 && at < values.length && sorts[at] == VALUE ? values[at] : -1;
        }

        private boolean readClause() {
            int uses = Law.PICK;
            if (skip(USE)) {
                uses = valueHere();
                if (uses < 0 || uses > MOST_USED) {
                    return false;
                }
                at++;
            } else if (!skip(PICK)) {
                return false;
            }
            if (uses == Law.PICK || !isHere(';')) {
                if (!skip(IF) || !readCond(0)) {
                    return false;
                }
            }
            law.addClause(uses);
            return skip(';');
        }

        private boolean readCond(int open) {
            boolean fits = readAll(open);
            for (int i = 0; i < TAPE_ROOM && fits && skip(OR); i++) {
                fits = readAll(open);
                law.addCode(Law.OR);
            }
            return fits;
        }

        private boolean readAll(int open) {
            boolean fits = readOne(open);
            for (int i = 0; i < TAPE_ROOM && fits && skip(AND); i++) {
                fits = readOne(open);
                law.addCode(Law.AND);
            }
            return fits;
        }

        private boolean readOne(int open) {
            boolean isNot = false;
            for (int i = 0; i < TAPE_ROOM && skip(NOT); i++) {
                isNot = !isNot;
            }
            boolean fits;
            if (isHere('(')) {
                // A fourth "(" stays where it is: it is the FAULT.
                fits = open < MOST_OPEN && skip('(') && readCond(open + 1) && skip(')');
            } else {
                fits = readComparison();
            }
            if (isNot) {
                law.addCode(Law.NOT);
            }
            return fits;
        }

        private boolean readComparison() {
            int left = valueHere();
            if (!skip(VALUE)) {
                return false;
            }
            int sign = 0;
            if (skip('=')) {
                sign = 1;
            } else if (skip('>')) {
                sign = 2;
            } else if (!skip('<')) {
                return false;
            }
            int right = valueHere();
            if (!skip(VALUE)) {
                return false;
            }
            law.addCode(Law.comparison(left, sign, right));
            return true;
        }
    }

    /** All that keep() keeps. */
    static final class World {
        static final int AIRS = 24;

        final Flake[] flakes = {new Flake(), new Flake(), new Flake(), new Flake()};
        final Growth[] growths = new Growth[6];
        int growthCount;
        final Law law = new Law();
        final int[] warmOf = new int[AIRS];
        final int[] wetOf = new int[AIRS];
        int missed;
        int z = 1;
        /** Room for what is worked out anew each time; nothing of it is kept. */
        final int[] freezing = new int[Flake.CELLS.length];
        private final int[] named = new int[6];

        void become(World other) {
            for (int i = 0; i < flakes.length; i++) {
                flakes[i].become(other.flakes[i]);
            }
            for (int i = 0; i < growths.length; i++) {
                growths[i] = other.growths[i];
            }
            growthCount = other.growthCount;
            law.become(other.law);
            System.arraycopy(other.warmOf, 0, warmOf, 0, AIRS);
            System.arraycopy(other.wetOf, 0, wetOf, 0, AIRS);
            missed = other.missed;
            z = other.z;
        }

        Growth growthAt(int number) {
            boolean isThere = number >= 0 && number < growthCount && number < growths.length;
            return isThere ? growths[number] : null;
        }

        /** A MINUTE by a GROWTH: how many CELLS are new. */
        int growBy(Flake f, Growth g) {
            int would = g.listFreezing(f, freezing);
            int grown = 0;
            f.minute++;
            for (int i = 0; i < would && i < freezing.length; i++) {
                if (!isMissed()) {
                    f.setSince(freezing[i], f.minute);
                    grown++;
                }
            }
            return grown;
        }

        private boolean isMissed() {
            if (missed == 0) {
                return false;
            }
            z = z * 1103515245 + 12345;
            return (z >>> 16) % 4 < missed;
        }

        int growthFor(Flake f, int warm, int wet) {
            nameValues(f, warm, wet);
            return law.lastUsed(named);
        }

        boolean isPicked(Flake f) {
            nameValues(f, 0, 0);
            return law.isSomePick(named);
        }

        private void nameValues(Flake f, int warm, int wet) {
            named[0] = warm;
            named[1] = wet;
            named[2] = f.iceCount();
            named[3] = f.span();
            named[4] = f.edge();
            named[5] = f.minute;
        }

        int letFall(Flake f, int n) {
            int grown = 0;
            boolean goesOn = true;
            while (grown < n && goesOn && f.minute >= 0 && f.minute < Flake.LAST_MINUTE) {
                int air = f.minute % AIRS;
                Growth g = growthAt(growthFor(f, warmOf[air], wetOf[air]));
                goesOn = g != null;
                if (g != null) {
                    growBy(f, g);
                    grown++;
                }
            }
            return grown;
        }
    }
}
