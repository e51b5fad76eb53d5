/**
 * An orchard whose rows walk, a cell a year, through a land that is told in a text.
 * The document (../shared/DOC.md) numbers what each call promises.
 */
public final class WalkingOrchard {
    public static final int BAD = -1, NO = -2, FULL = -3, NONE = -4;

    private static final int LETTERS_MOST = 200;
    private static final int LINES_MOST = 6;
    private static final int WIDTH_MOST = 6;
    private static final int CELLS_MOST = 36;
    private static final int OWNERS = 4;
    private static final int ROWS_MOST = 3;
    private static final int TREES_MOST = 4;
    private static final int NUMBERS_MOST = 7;
    private static final int SEEN_MOST = 6;
    private static final int UNDO_MOST = 8;
    private static final int KEPT_MOST = 2;
    private static final int NEAR_YEARS_MOST = 20;
    private static final int FAR_YEARS_MOST = 60;
    private static final int AGAIN_YEARS_MOST = 200;
    private static final int FROST_YEARS_MOST = 8;
    private static final int SEED_MOST = 9999;

    private static final int FIELD = 0, HEDGE = 1, BROOK = 2, HOUSE = 3;
    private static final int LEFT = 1, SLOW = 2, BOLD = 3, KINDS = 4;
    private static final int NORTH = 0, EAST = 1, SOUTH = 2, WAYS = 4;
    private static final int LONE_TREE = 9;

    private static final String FIRST_TEXT =
        "l000100;l000100;l020110;l000000;l030000;o0,2,1;o18,23,2;o24,29,3;t0,1,3,7,6;t1,0,2,28,27,26;t3,2,5,5;";

    private final char[] text = new char[LETTERS_MOST];
    private int textLength;
    private final Land land = new Land();
    private final Orchard now = new Orchard(land);
    /** The one orchard in which all that is only asked for is played through. */
    private final Orchard ahead = new Orchard(land);
    private final Reader reader = new Reader();
    private final Past undoable = new Past(UNDO_MOST, land);
    private final Past kept = new Past(KEPT_MOST, land);
    private final int[] seenRows = new int[SEEN_MOST];
    private final int[] seenCells = new int[SEEN_MOST];
    private final int[] seenYears = new int[SEEN_MOST];
    private int seenCount;
    private final int[] found = new int[2];
    private final long[] enteredBy = new long[CELLS_MOST];

    public WalkingOrchard() {
        char[] first = FIRST_TEXT.toCharArray();
        reader.readText(first, first.length);
        land.copyFrom(reader.land);
        now.copyFrom(reader.orchard);
    }

    // ---- lands

    public int write(int letter) {
        if (letter < 32 || letter > 126) {
            return BAD;
        }
        if (textLength < 0 || textLength >= text.length) {
            return FULL;
        }
        text[textLength] = (char) letter;
        textLength++;
        return textLength;
    }

    public int wipe() {
        int length = textLength;
        textLength = 0;
        return length;
    }

    public int fault() {
        return reader.readText(text, textLength);
    }

    public int lay() {
        if (reader.readText(text, textLength) != NONE || reader.orchard.rowCount == 0) {
            return NO;
        }
        land.copyFrom(reader.land);
        now.copyFrom(reader.orchard);
        seenCount = 0;
        undoable.clear();
        kept.clear();
        return now.rowCount;
    }

    public int cell(int x, int what) {
        if (!land.holds(x)) {
            return BAD;
        }
        switch (what) {
            case 0: return land.groundOf(x);
            case 1: return land.ownerOf(x);
            case 2: return contains(now.ditches, x) ? 1 : 0;
            case 3: return now.standsIn(x);
            default: return BAD;
        }
    }

    public int row(int r, int what) {
        if (!now.holds(r)) {
            return BAD;
        }
        Row row = now.rows[r];
        switch (what) {
            case 0: return row.kind;
            case 1: return row.heading;
            case 2: return row.bears;
            case 3: return row.size;
            case 4: return land.nextBy(row.first(), now.wayOf(row));
            default: return BAD;
        }
    }

    public int tree(int r, int k) {
        if (!now.holds(r) || k < 0 || k >= TREES_MOST) {
            return BAD;
        }
        return now.rows[r].treeAt(k);
    }

    public int has(int p) {
        if (!isOwner(p)) {
            return BAD;
        }
        return now.owned[p];
    }

    // ---- acts

    public int pass(int n) {
        if (!isWithin(n, 1, NEAR_YEARS_MOST)) {
            return BAD;
        }
        undoable.push(now);
        now.passYears(n);
        return now.year;
    }

    public int dig(int x) {
        if (!land.holds(x)) {
            return BAD;
        }
        if (!now.canDig(x)) {
            return NO;
        }
        undoable.push(now);
        now.digIn(x);
        return Long.bitCount(now.ditches);
    }

    public int fill(int x) {
        if (!land.holds(x)) {
            return BAD;
        }
        if (!contains(now.ditches, x)) {
            return NO;
        }
        undoable.push(now);
        now.fillIn(x);
        return Long.bitCount(now.ditches);
    }

    public int leave(int r) {
        if (!now.holds(r)) {
            return BAD;
        }
        if (now.rows[r].size < 2) {
            return NO;
        }
        undoable.push(now);
        return now.leaveLast(now.rows[r]);
    }

    public int undo() {
        if (undoable.count == 0) {
            return NO;
        }
        undoable.pop(now);
        return undoable.count;
    }

    // ---- what comes

    public int behind(int n, int r) {
        if (!isWithin(n, 0, FAR_YEARS_MOST) || !now.holds(r)) {
            return BAD;
        }
        return firstTreeBehind(n, r, 0L);
    }

    public int wealth(int n, int p) {
        if (!isWithin(n, 0, FAR_YEARS_MOST) || !isOwner(p)) {
            return BAD;
        }
        return ownedBehind(n, p, 0L);
    }

    public int comes(int r, int x) {
        if (!now.holds(r) || !land.holds(x)) {
            return BAD;
        }
        ahead.copyFrom(now);
        for (int n = 0; n <= FAR_YEARS_MOST; n++) {
            if (ahead.rows[r].first() == x) {
                return n;
            }
            ahead.goYear(NONE);
        }
        return NONE;
    }

    public int meet(int r, int q) {
        if (!now.holds(r) || !now.holds(q) || r == q) {
            return BAD;
        }
        ahead.copyFrom(now);
        for (int n = 0; n <= FAR_YEARS_MOST; n++) {
            if (ahead.areSideBySide(ahead.rows[r], ahead.rows[q])) {
                return n;
            }
            ahead.goYear(NONE);
        }
        return NONE;
    }

    public int again() {
        ahead.copyFrom(now);
        for (int n = 1; n <= AGAIN_YEARS_MOST; n++) {
            ahead.goYear(NONE);
            if (ahead.standsAs(now)) {
                return n;
            }
        }
        return NONE;
    }

    public int ditches(int r, int x, int n, int k) {
        if (!now.holds(r) || !land.holds(x) || !isWithin(n, 1, NEAR_YEARS_MOST) || !isWithin(k, -1, 1)) {
            return BAD;
        }
        int fewest = noneOrOneDitch(r, x, n);
        if (fewest == NONE) {
            fewest = twoDitches(r, x, n);
        }
        if (k == -1 || fewest == NONE) {
            return fewest;
        }
        return k >= 0 && k < fewest && k < found.length ? found[k] : NONE;
    }

    public int best(int p, int n, int what) {
        if (!isOwner(p) || !isWithin(n, 1, NEAR_YEARS_MOST) || !isWithin(what, 0, 1)) {
            return BAD;
        }
        int where = NONE;
        int most = NONE;
        for (int x = 0; x < land.cells(); x++) {
            if (!now.canDig(x)) {
                continue;
            }
            int owned = ownedBehind(n, p, bit(x));
            if (where == NONE || owned > most) {
                where = x;
                most = owned;
            }
        }
        return what == 0 ? where : most;
    }

    // ---- what was seen

    public int see(int r, int x, int t) {
        if (!now.holds(r) || !land.holds(x) || !isWithin(t, 0, NEAR_YEARS_MOST)) {
            return BAD;
        }
        if (seenCount < 0 || seenCount >= SEEN_MOST) {
            return FULL;
        }
        seenRows[seenCount] = r;
        seenCells[seenCount] = x;
        seenYears[seenCount] = t;
        seenCount++;
        return seenCount;
    }

    public int forget() {
        int count = seenCount;
        seenCount = 0;
        return count;
    }

    public int fits(int r, int what) {
        if (!now.holds(r) || !isWithin(what, 0, 1)) {
            return BAD;
        }
        int fitting = 0;
        // There are as many WAYS as KINDS: one loop serves for both.
        for (int v = 0; v < KINDS; v++) {
            ahead.copyFrom(now);
            if (what == 0) {
                ahead.rows[r].heading = v;
            } else {
                ahead.rows[r].kind = v;
            }
            if (allSeenComes(r)) {
                fitting |= 1 << v;
            }
        }
        return fitting;
    }

    // ---- frost, centuries

    public int frost(int r, int cell, int n, int x, int part) {
        if (!now.holds(r) || !land.holds(cell) || !isWithin(n, 0, FROST_YEARS_MOST)
                || !isWithin(x, 0, 10) || !isWithin(part, 0, 1)) {
            return BAD;
        }
        long above = casesOfFrost(r, cell, n, x);
        long below = 1;
        for (int k = 0; k < n; k++) {
            below *= 10;
        }
        // 2 and 5 alone divide a power of ten.
        for (int k = 0; k < n; k++) {
            if (above % 2 == 0 && below % 2 == 0) {
                above /= 2;
                below /= 2;
            }
            if (above % 5 == 0 && below % 5 == 0) {
                above /= 5;
                below /= 5;
            }
        }
        return (int) (part == 0 ? above : below);
    }

    public int century(int z, int n, int what) {
        if (!isWithin(z, 0, SEED_MOST) || !isWithin(n, 1, FAR_YEARS_MOST) || !isWithin(what, 0, 1)) {
            return BAD;
        }
        ahead.copyFrom(now);
        for (int k = 0; k < n; k++) {
            disturbAhead(drawOf(z, k));
            ahead.passYears(1);
        }
        return what == 0 ? ahead.ownedByAll() : Long.bitCount(ahead.ditches);
    }

    public int keep() {
        if (kept.count >= KEPT_MOST) {
            return FULL;
        }
        kept.push(now);
        return kept.count;
    }

    public int back() {
        if (kept.count == 0) {
            return NO;
        }
        kept.pop(now);
        undoable.clear();
        return kept.count;
    }

    public int count(int what) {
        switch (what) {
            case 0: return land.cells();
            case 1: return land.width;
            case 2: return now.rowCount;
            case 3: return now.year;
            case 4: return Long.bitCount(now.taken & ~now.leftBehind);
            case 5: return Long.bitCount(now.leftBehind);
            case 6: return Long.bitCount(now.ditches);
            case 7: return now.ownedByAll();
            case 8: return seenCount;
            case 9: return undoable.count;
            case 10: return kept.count;
            case 11: return textLength;
            default: return BAD;
        }
    }

    // ---- what the calls share

    private static boolean isWithin(int number, int least, int most) {
        return number >= least && number <= most;
    }

    private static boolean isOwner(int p) {
        return p >= 0 && p < OWNERS;
    }

    /** Sets of cells are bits of a long, so that no set is ever made anew. */
    private static long bit(int x) {
        return x >= 0 && x < CELLS_MOST ? 1L << x : 0L;
    }

    private static boolean contains(long cells, int x) {
        return x >= 0 && x < CELLS_MOST && (cells >>> x & 1L) != 0;
    }

    /** Were there ditches in the cells dug, too; the caller has looked at r. */
    private int firstTreeBehind(int n, int r, long dug) {
        ahead.copyFrom(now);
        ahead.ditches |= dug;
        for (int k = 0; k < n; k++) {
            ahead.goYear(NONE);
        }
        return ahead.holds(r) ? ahead.rows[r].first() : NONE;
    }

    private int ownedBehind(int n, int p, long dug) {
        ahead.copyFrom(now);
        ahead.ditches |= dug;
        ahead.passYears(n);
        return isOwner(p) ? ahead.owned[p] : 0;
    }

    /**
     * 0, 1 or NONE; in found which. A ditch changes what comes only in a cell into which a row
     * would go, so no other cell is tried.
     */
    private int noneOrOneDitch(int r, int x, int n) {
        if (firstTreeBehind(n, r, 0L) == x) {
            return 0;
        }
        long entered = ahead.entered;
        for (int a = 0; a < land.cells() && a < CELLS_MOST; a++) {
            enteredBy[a] = entered;
            if (now.canDig(a) && contains(entered, a)) {
                if (firstTreeBehind(n, r, bit(a)) == x) {
                    found[0] = a;
                    return 1;
                }
                enteredBy[a] = ahead.entered;
            }
        }
        return NONE;
    }

    /**
     * 2 or NONE, where one alone does not do (noneOrOneDitch has filled enteredBy): either ditch
     * must change what comes with the other one.
     */
    private int twoDitches(int r, int x, int n) {
        for (int a = 0; a < land.cells() && a < CELLS_MOST; a++) {
            if (!now.canDig(a)) {
                continue;
            }
            for (int b = a + 1; b < land.cells() && b < CELLS_MOST; b++) {
                if (contains(enteredBy[a], b) && contains(enteredBy[b], a) && now.canDig(b)
                        && firstTreeBehind(n, r, bit(a) | bit(b)) == x) {
                    found[0] = a;
                    found[1] = b;
                    return 2;
                }
            }
        }
        return NONE;
    }

    /** Whether all that is seen of a row comes as things stand ahead. */
    private boolean allSeenComes(int r) {
        for (int t = 0; t <= NEAR_YEARS_MOST; t++) {
            int first = ahead.holds(r) ? ahead.rows[r].first() : NONE;
            for (int i = 0; i < seenCount && i < SEEN_MOST; i++) {
                if (seenRows[i] == r && seenYears[i] == t && seenCells[i] != first) {
                    return false;
                }
            }
            ahead.goYear(NONE);
        }
        return true;
    }

    /** In how many of 10 to the n equal cases a row, that stays in x of ten, comes to a cell. */
    private long casesOfFrost(int r, int cell, int n, int x) {
        long cases = 0;
        for (int stays = 0; stays < 1 << n; stays++) {
            long weight = 1;
            for (int k = 0; k < n; k++) {
                weight *= contains(stays, k) ? x : 10 - x;
            }
            if (weight > 0 && firstTreeOfFrost(r, n, stays) == cell) {
                cases += weight;
            }
        }
        return cases;
    }

    private int firstTreeOfFrost(int r, int n, int stays) {
        ahead.copyFrom(now);
        for (int k = 0; k < n; k++) {
            ahead.goYear(contains(stays, k) ? r : NONE);
        }
        return ahead.holds(r) ? ahead.rows[r].first() : NONE;
    }

    private static int drawOf(int z, int k) {
        long x = 7919L * z + 6151L * k + 1L;
        return (int) (x * x % 65521L);
    }

    private void disturbAhead(int draw) {
        int cells = land.cells();
        int rowCount = ahead.rowCount;
        if (cells < 1 || rowCount < 1 || draw < 0) {
            return;
        }
        int place = draw / 8;
        switch (draw % 8) {
            case 0:
            case 1:
                ahead.digIn(place % cells);
                break;
            case 2:
                ahead.fillIn(place % cells);
                break;
            case 3:
                ahead.leaveLast(ahead.rows[Math.min(place % rowCount, ROWS_MOST - 1)]);
                break;
            default:
                break;
        }
    }

    // ---- the classes inside

    /** What a text tells once and no year changes: grounds and owners of cells. */
    private static final class Land {
        final int[] owners = new int[CELLS_MOST];
        long fields;
        long hedges;
        long brooks;
        int lines;
        int width;

        void clear() {
            fields = 0L;
            hedges = 0L;
            brooks = 0L;
            lines = 0;
            width = 0;
            for (int x = 0; x < CELLS_MOST; x++) {
                owners[x] = 0;
            }
        }

        void copyFrom(Land other) {
            fields = other.fields;
            hedges = other.hedges;
            brooks = other.brooks;
            lines = other.lines;
            width = other.width;
            for (int x = 0; x < CELLS_MOST; x++) {
                owners[x] = other.owners[x];
            }
        }

        int cells() {
            return lines * width;
        }

        boolean holds(int x) {
            return x >= 0 && x < lines * width && x < CELLS_MOST;
        }

        int groundOf(int x) {
            if (contains(fields, x)) {
                return FIELD;
            }
            if (contains(hedges, x)) {
                return HEDGE;
            }
            return contains(brooks, x) ? BROOK : HOUSE;
        }

        int ownerOf(int x) {
            return x >= 0 && x < CELLS_MOST ? owners[x] : 0;
        }

        /** The cell beside x to which a way leads, or NONE. */
        int nextBy(int x, int way) {
            if (width < 1 || x < 0 || x >= lines * width || way < 0) {
                return NONE;
            }
            int column = x % width;
            switch (way) {
                case NORTH: return x >= width ? x - width : NONE;
                case EAST: return column + 1 < width ? x + 1 : NONE;
                case SOUTH: return x + width < lines * width ? x + width : NONE;
                default: return column > 0 ? x - 1 : NONE;
            }
        }

        boolean isBesideOne(int x, long cells) {
            for (int way = 0; way < WAYS; way++) {
                if (contains(cells, nextBy(x, way))) {
                    return true;
                }
            }
            return false;
        }
    }

    /** A row of trees, the first one ahead. */
    private static final class Row {
        final int[] trees = new int[TREES_MOST];
        int size;
        int kind;
        int heading;
        int bears;

        void copyFrom(Row other) {
            size = other.size;
            kind = other.kind;
            heading = other.heading;
            bears = other.bears;
            for (int k = 0; k < TREES_MOST; k++) {
                trees[k] = other.trees[k];
            }
        }

        int first() {
            return trees[0];
        }

        int treeAt(int k) {
            return k >= 0 && k < size && k < TREES_MOST ? trees[k] : NONE;
        }

        long cells() {
            long cells = 0L;
            for (int k = 0; k < size && k < TREES_MOST; k++) {
                cells |= bit(trees[k]);
            }
            return cells;
        }

        void plant(int x) {
            if (size >= 0 && size < TREES_MOST) {
                trees[size] = x;
                size++;
            }
        }

        boolean standsAs(Row other) {
            if (heading != other.heading || size != other.size) {
                return false;
            }
            for (int k = 0; k < size && k < TREES_MOST; k++) {
                if (trees[k] != other.trees[k]) {
                    return false;
                }
            }
            return true;
        }
    }

    /** How all stands at one time: what years and acts change. */
    private static final class Orchard {
        final Land land;
        final Row[] rows = new Row[ROWS_MOST];
        final int[] owned = new int[OWNERS];
        int rowCount;
        int year;
        long ditches;
        long leftBehind;
        /** The cells with a tree, of a row or left behind. */
        long taken;
        /** The cells into which first trees went since this was copied. */
        long entered;

        Orchard(Land land) {
            this.land = land;
            for (int r = 0; r < ROWS_MOST; r++) {
                rows[r] = new Row();
            }
        }

        void clear() {
            rowCount = 0;
            year = 0;
            ditches = 0L;
            leftBehind = 0L;
            taken = 0L;
            entered = 0L;
            for (int p = 0; p < OWNERS; p++) {
                owned[p] = 0;
            }
        }

        void copyFrom(Orchard other) {
            rowCount = other.rowCount;
            year = other.year;
            ditches = other.ditches;
            leftBehind = other.leftBehind;
            taken = other.taken;
            entered = 0L;
            for (int p = 0; p < OWNERS; p++) {
                owned[p] = other.owned[p];
            }
            for (int r = 0; r < rowCount && r < ROWS_MOST; r++) {
                rows[r].copyFrom(other.rows[r]);
            }
        }

        boolean holds(int r) {
            return r >= 0 && r < rowCount && r < ROWS_MOST;
        }

        int standsIn(int x) {
            if (contains(leftBehind, x)) {
                return LONE_TREE;
            }
            for (int r = 0; r < rowCount && r < ROWS_MOST; r++) {
                if (contains(rows[r].cells(), x)) {
                    return r;
                }
            }
            return NONE;
        }

        boolean canDig(int x) {
            return contains(land.fields & ~ditches & ~taken, x);
        }

        void digIn(int x) {
            if (canDig(x)) {
                ditches |= bit(x);
            }
        }

        void fillIn(int x) {
            ditches &= ~bit(x);
        }

        /** The cell in which the last tree of a row of more than one is left behind, or NONE. */
        int leaveLast(Row row) {
            if (row.size < 2) {
                return NONE;
            }
            int x = row.treeAt(row.size - 1);
            row.size--;
            leftBehind |= bit(x);
            return x;
        }

        /** The way that a row goes in this year as all stands, or NONE. */
        int wayOf(Row row) {
            if (row.kind == SLOW && year % 2 != 0) {
                return NONE;
            }
            long ground = land.fields | land.hedges | (row.kind == BOLD ? land.brooks : 0L);
            long open = ground & ~ditches & ~taken;
            int turn = row.kind == LEFT ? WAYS - 1 : 1;
            int straight = row.heading;
            int turned = (straight + turn) % WAYS;
            int other = (straight + WAYS - turn) % WAYS;
            if (contains(open, land.nextBy(row.first(), straight))) {
                return straight;
            }
            if (contains(open, land.nextBy(row.first(), turned))) {
                return turned;
            }
            return contains(open, land.nextBy(row.first(), other)) ? other : NONE;
        }

        void goRow(Row row) {
            int way = wayOf(row);
            if (way == NONE) {
                return;
            }
            int x = land.nextBy(row.first(), way);
            taken &= ~bit(row.treeAt(row.size - 1));
            taken |= bit(x);
            entered |= bit(x);
            row.heading = way;
            for (int k = TREES_MOST - 1; k > 0; k--) {
                row.trees[k] = row.trees[k - 1];
            }
            row.trees[0] = x;
            if (contains(land.hedges, x)) {
                give(x, 1);
            }
        }

        /** A year without what trees bear, for the questions that ask only where rows are. */
        void goYear(int staying) {
            for (int r = 0; r < rowCount && r < ROWS_MOST; r++) {
                if (r != staying) {
                    goRow(rows[r]);
                }
            }
            year++;
        }

        void passYears(int n) {
            for (int k = 0; k < n; k++) {
                goYear(NONE);
                for (int r = 0; r < rowCount && r < ROWS_MOST; r++) {
                    bearRow(rows[r]);
                }
            }
        }

        void bearRow(Row row) {
            long others = taken & ~leftBehind & ~row.cells();
            for (int k = 0; k < row.size && k < TREES_MOST; k++) {
                int x = row.trees[k];
                give(x, row.bears + (land.isBesideOne(x, others) ? 1 : 0));
            }
        }

        /** To the owner of a cell. */
        void give(int x, int much) {
            int p = land.ownerOf(x);
            if (p >= 0 && p < OWNERS) {
                owned[p] += much;
            }
        }

        int ownedByAll() {
            int sum = 0;
            for (int p = 0; p < OWNERS; p++) {
                sum += owned[p];
            }
            return sum;
        }

        boolean areSideBySide(Row one, Row other) {
            long cells = other.cells();
            for (int k = 0; k < one.size && k < TREES_MOST; k++) {
                if (land.isBesideOne(one.trees[k], cells)) {
                    return true;
                }
            }
            return false;
        }

        /** Whether from here on rows go as from the other one, were nothing else done. */
        boolean standsAs(Orchard other) {
            boolean slow = false;
            for (int r = 0; r < rowCount && r < ROWS_MOST; r++) {
                if (!rows[r].standsAs(other.rows[r])) {
                    return false;
                }
                slow = slow || rows[r].kind == SLOW;
            }
            return !slow || (year - other.year) % 2 == 0;
        }
    }

    /** The latest orchards that were put by; where there is no more room, the oldest one goes. */
    private static final class Past {
        final Orchard[] orchards;
        int count;

        Past(int most, Land land) {
            orchards = new Orchard[most > 0 ? most : 0];
            for (int i = 0; i < orchards.length; i++) {
                orchards[i] = new Orchard(land);
            }
        }

        void clear() {
            count = 0;
        }

        void push(Orchard orchard) {
            if (count >= orchards.length) {
                dropOldest();
            }
            if (count >= 0 && count < orchards.length) {
                orchards[count].copyFrom(orchard);
                count++;
            }
        }

        void pop(Orchard into) {
            if (count > 0 && count <= orchards.length) {
                count--;
                into.copyFrom(orchards[count]);
            }
        }

        void dropOldest() {
            if (orchards.length == 0) {
                return;
            }
            // Its object is taken for the next one: none is made while calls go on.
            Orchard oldest = orchards[0];
            for (int i = 1; i < orchards.length; i++) {
                orchards[i - 1] = orchards[i];
            }
            orchards[orchards.length - 1] = oldest;
            count = orchards.length - 1;
        }
    }

    /** Reads a text into a land and an orchard of its own, so that a fault spoils nothing. */
    private static final class Reader {
        final Land land = new Land();
        final Orchard orchard = new Orchard(land);
        final int[] numbers = new int[NUMBERS_MOST];
        int told;
        char[] letters = new char[0];
        int length;
        int at;

        /** The place of the first item that is not so, or NONE. */
        int readText(char[] from, int howMany) {
            letters = from;
            length = Math.min(howMany, from.length);
            at = 0;
            land.clear();
            orchard.clear();
            for (int items = 0; items < LETTERS_MOST && at < length; items++) {
                int start = at;
                if (!readItem()) {
                    return start;
                }
            }
            return NONE;
        }

        boolean readItem() {
            switch (nextLetter()) {
                case 'l': return readLine();
                case 'o': return readNumbers() && giveCells();
                case 't': return readNumbers() && plantRow();
                default: return false;
            }
        }

        /** 0, which no text has, behind the last one. */
        char nextLetter() {
            if (at < 0 || at >= length || at >= letters.length) {
                return (char) 0;
            }
            char letter = letters[at];
            at++;
            return letter;
        }

        boolean readLine() {
            if (land.lines >= LINES_MOST) {
                return false;
            }
            int start = land.lines * land.width;
            int wide = 0;
            char letter = nextLetter();
            while (wide < WIDTH_MOST && letter >= '0' && letter <= '3') {
                tellGround(start + wide, letter - '0');
                wide++;
                letter = nextLetter();
            }
            if (letter != ';' || wide == 0 || (land.lines > 0 && wide != land.width)) {
                return false;
            }
            land.width = wide;
            land.lines++;
            return true;
        }

        void tellGround(int x, int ground) {
            switch (ground) {
                case FIELD:
                    land.fields |= bit(x);
                    break;
                case HEDGE:
                    land.hedges |= bit(x);
                    break;
                case BROOK:
                    land.brooks |= bit(x);
                    break;
                default:
                    break;
            }
        }

        boolean readNumbers() {
            told = 0;
            for (int i = 0; i < NUMBERS_MOST; i++) {
                int number = readNumber();
                if (number == NONE) {
                    return false;
                }
                numbers[i] = number;
                told++;
                char letter = nextLetter();
                if (letter != ',') {
                    return letter == ';';
                }
            }
            return false;
        }

        /** One or two figures; NONE: there is none. */
        int readNumber() {
            if (!isFigureNext()) {
                return NONE;
            }
            int number = nextLetter() - '0';
            return isFigureNext() ? number * 10 + (nextLetter() - '0') : number;
        }

        boolean isFigureNext() {
            return at >= 0 && at < length && at < letters.length
                && letters[at] >= '0' && letters[at] <= '9';
        }

        boolean giveCells() {
            if (told != 3 || !land.holds(numbers[0]) || !land.holds(numbers[1])
                    || numbers[1] < numbers[0] || numbers[2] >= OWNERS) {
                return false;
            }
            for (int x = numbers[0]; x <= numbers[1] && x < CELLS_MOST; x++) {
                land.owners[x] = numbers[2];
            }
            return true;
        }

        boolean plantRow() {
            if (told < 4 || orchard.rowCount < 0 || orchard.rowCount >= ROWS_MOST
                    || numbers[0] >= KINDS || numbers[1] >= WAYS || numbers[2] > 9) {
                return false;
            }
            Row row = orchard.rows[orchard.rowCount];
            row.size = 0;
            row.kind = numbers[0];
            row.heading = numbers[1];
            row.bears = numbers[2];
            for (int i = 3; i < told && i < NUMBERS_MOST; i++) {
                if (!plantTree(row, numbers[i])) {
                    return false;
                }
            }
            orchard.rowCount++;
            return true;
        }

        boolean plantTree(Row row, int x) {
            if (!contains((land.fields | land.hedges) & ~orchard.taken, x)) {
                return false;
            }
            if (row.size > 0 && !land.isBesideOne(x, bit(row.treeAt(row.size - 1)))) {
                return false;
            }
            row.plant(x);
            orchard.taken |= bit(x);
            return true;
        }
    }
}
