import java.util.Arrays;

/**
 * Groups of few generators by few relations, and maps between them.
 *
 * All that needs working out is asked of lattices (sets of whole rows that are closed under adding and taking
 * away), each held by its reduced Hermite basis: that basis is unique, so that questions of being one, of being
 * exact and of being normal become comparisons and divisions. All working rows are made once, with the object.
 */
public final class GroupsByRelations {
    public static final int BAD = -1, FULL = -2, NONE = -3, STATE = -4;

    private static final int MISSING = -11, OUTSIDE = -12, UNLIKE = -13, BELOW_ZERO = -14, TOO_GREAT = -16;
    private static final int FAULT_AT_START = -100, NAMES_NO_MAP = -300, DOES_NOT_FIT = -301;
    private static final long LONG_REFUSAL = -4000000000000000000L;

    private static final int GROUPS = 6, MAPS = 8, SHEETS = 4, SHELVES = 4;
    private static final int SIZE = 3, CELLS = 9;
    private static final int MOST_RELATIONS = 4, MOST_MOVES = 12, MOST_CHANGES = 20, MOST_BYTES = 100;
    private static final int MOST_ITEMS = 40, MOST_SPANNING = 9, DEEPEST = 4;
    private static final int RELATION_RANGE = 9, ELEMENT_RANGE = 999, SHEET_RANGE = 99, TABLE_RANGE = 99;
    private static final int NUMBER_RANGE = 1000000000;
    private static final int BYTES = 0, INTS = 1, LONGS = 2, NO_SORT = -1;
    private static final int MOVE_PLACE = 0, MOVE_TIMES = 1, MOVE_MAP = 2, MOVE_NORMAL = 3;
    private static final int HOM = 0, TENSOR = 1, TORSION = 2, EXTENSION = 3, SUM = 4;
    private static final int KERNEL = 0, REACHES = 1, LEAVES = 2;
    private static final int NO_GROUP = -1;

    /** The widest lattice is that of pairs of two rows of three. */
    private static final int WIDEST = 6;

    /** Far above the turns that Euclid's way needs for longs, which is below a hundred. */
    private static final int EUCLID_TURNS = 200;

    private final State state = new State();
    private final State kept = new State();
    private boolean isKept = false;
    private final History history = new History();
    private final TextReader reader = new TextReader();
    private final Diagram rowsOfMaps = new Diagram();
    private final Sheet[] sheets = new Sheet[SHEETS];
    private final Shelf[] shelves = new Shelf[SHELVES];
    private final MapWork work = new MapWork();
    private final MapWork nextWork = new MapWork();
    private final Lattice nothing = new Lattice();
    private final Lattice wider = new Lattice();
    private final Rings rings = new Rings();
    private final Rings otherRings = new Rings();
    private final Rings pairRings = new Rings();
    private final long[] row = new long[WIDEST];
    private final long[] otherRow = new long[WIDEST];

    public GroupsByRelations() {
        for (int i = 0; i < SHEETS; i++) {
            sheets[i] = new Sheet();
        }
        for (int i = 0; i < SHELVES; i++) {
            shelves[i] = new Shelf();
        }
    }

    // ---- groups

    public int group(int g, int n) {
        if (!isGroup(g) || n < 0 || n > SIZE) {
            return BAD;
        }
        history.remember(state);
        int before = state.generators[g];
        state.renewGroup(g, n);
        return before;
    }

    public int relation(int g, int a, int b, int c) {
        if (!isGroup(g) || !areWithin(a, b, c, RELATION_RANGE)) {
            return BAD;
        }
        if (state.relationCounts[g] >= MOST_RELATIONS) {
            return FULL;
        }
        history.remember(state);
        tell(g, a, b, c);
        state.takeRelation(g, row);
        return state.relationCounts[g];
    }

    public int groupIs(int g, int what) {
        if (!isGroup(g)) {
            return BAD;
        }
        switch (what) {
            case 0:
                return state.generators[g];
            case 1:
                return state.relationCounts[g];
            case 2:
                workOutRings(g, rings);
                return rings.countOwn();
            case 3:
                state.fillNothing(g, nothing);
                return (int) nothing.index();
            default:
                return BAD;
        }
    }

    public int ring(int g, int k) {
        if (!isPlace(g, k)) {
            return BAD;
        }
        workOutRings(g, rings);
        return (int) rings.numbers[k];
    }

    public int step(int g, int k) {
        if (!isPlace(g, k)) {
            return BAD;
        }
        state.fillNothing(g, nothing);
        return (int) nothing.lead(k);
    }

    public long normal(int g, int a, int b, int c, int k) {
        if (!isPlace(g, k) || !isElement(a, b, c)) {
            return refused(BAD);
        }
        tell(g, a, b, c);
        state.fillNothing(g, nothing);
        nothing.reduce(row);
        return row[k];
    }

    public int order(int g, int a, int b, int c) {
        if (!isGroup(g) || !isElement(a, b, c)) {
            return BAD;
        }
        tell(g, a, b, c);
        state.fillNothing(g, nothing);
        return (int) nothing.orderOf(row);
    }

    public int same(int g, int h) {
        if (!isGroup(g) || !isGroup(h)) {
            return BAD;
        }
        workOutRings(g, rings);
        workOutRings(h, otherRings);
        return rings.haveSameOwn(otherRings) ? 1 : 0;
    }

    public int ofTwo(int what, int g, int h, int k) {
        if (what < HOM || what > SUM || !isGroup(g) || !isGroup(h) || k < -1) {
            return BAD;
        }
        workOutRings(g, rings);
        workOutRings(h, otherRings);
        pairRings.ofTwoGroups(what, rings, otherRings);
        return ownRing(pairRings, k);
    }

    public int span(int g, int sheet, int i, int n) {
        if (!isGroup(g) || !isSheet(sheet) || n < 0 || n > MOST_SPANNING) {
            return BAD;
        }
        Sheet told = sheets[sheet];
        int refusal = told.refusal(INTS, i, SIZE * n);
        if (refusal < 0) {
            return refusal;
        }
        if (!told.areWithin(i, SIZE * n, SHEET_RANGE)) {
            return BAD;
        }
        state.fillNothing(g, nothing);
        state.fillNothing(g, wider);
        for (int e = 0; e < n; e++) {
            for (int j = 0; j < SIZE; j++) {
                row[j] = told.items[i + SIZE * e + j];
            }
            wider.insert(row);
        }
        return (int) nothing.indexWithin(wider);
    }

    // ---- maps

    public int map(int f, int g, int h) {
        if (!isMapNumber(f) || !isGroup(g) || !isGroup(h)) {
            return BAD;
        }
        history.remember(state);
        state.renewMap(f, g, h);
        return 1;
    }

    public int entry(int f, int i, int j, int v) {
        if (!isCell(f, i, j) || v < -RELATION_RANGE || v > RELATION_RANGE) {
            return BAD;
        }
        history.remember(state);
        int cell = CELLS * f + SIZE * i + j;
        int before = state.tables[cell];
        state.tables[cell] = v;
        return 1000 + before;
    }

    public int at(int f, int i, int j) {
        if (!isCell(f, i, j)) {
            return BAD;
        }
        return 1000 + state.tables[CELLS * f + SIZE * i + j];
    }

    public int mapIs(int f, int what) {
        if (!isMap(f) || what < 0 || what > 4) {
            return BAD;
        }
        if (what == 0) {
            return state.from[f];
        }
        if (what == 1) {
            return state.to[f];
        }
        boolean isWell = work.load(state, f);
        if (what == 2) {
            return isWell ? 1 : 0;
        }
        if (!isWell) {
            return STATE;
        }
        work.workOut(state, f);
        boolean holds = what == 3 ? work.isOneToOne() : work.isOnto();
        return holds ? 1 : 0;
    }

    public long image(int f, int a, int b, int c, int k) {
        if (!isMap(f) || !isElement(a, b, c) || !isPlace(state.to[f], k)) {
            return refused(BAD);
        }
        if (!work.load(state, f)) {
            return refused(STATE);
        }
        tell(state.from[f], a, b, c);
        state.mapRow(f, row, otherRow);
        work.target.reduce(otherRow);
        return otherRow[k];
    }

    public int part(int f, int what, int k) {
        if (!isMap(f) || what < KERNEL || what > LEAVES || k < -1) {
            return BAD;
        }
        if (!work.load(state, f)) {
            return STATE;
        }
        work.workOut(state, f);
        work.fillRings(what, rings);
        return ownRing(rings, k);
    }

    public long whence(int f, int a, int b, int c, int k) {
        if (!isMap(f) || !isElement(a, b, c) || !isPlace(state.from[f], k)) {
            return refused(BAD);
        }
        if (!work.load(state, f)) {
            return refused(STATE);
        }
        work.workOut(state, f);
        tell(state.to[f], a, b, c);
        if (!work.goBack(row)) {
            return refused(NONE);
        }
        return row[k];
    }

    public int exact(int f, int e) {
        if (!isMap(f) || !isMap(e)) {
            return BAD;
        }
        if (!work.load(state, f) || !nextWork.load(state, e) || state.to[f] != state.from[e]) {
            return STATE;
        }
        work.workOut(state, f);
        nextWork.workOut(state, e);
        return work.reach.isAs(nextWork.kernel) ? 1 : 0;
    }

    public int feed(long eight, int n) {
        if (n < 1 || n > 8) {
            return BAD;
        }
        if (reader.count + n > MOST_BYTES) {
            return FULL;
        }
        reader.take(eight, n);
        return reader.count;
    }

    public int text(int f) {
        if (!isMapNumber(f)) {
            return BAD;
        }
        int answer = reader.read(state);
        if (answer < 0) {
            return answer;
        }
        Table told = reader.told();
        if (!isGroup(told.from) || !isGroup(told.to)) {
            return NAMES_NO_MAP;
        }
        state.fillNothing(told.to, nothing);
        told.makeNormal(nothing);
        if (!told.isWithin(TABLE_RANGE)) {
            return TOO_GREAT;
        }
        history.remember(state);
        state.takeMap(f, told);
        return 1;
    }

    // ---- diagrams, moves

    public int diagram(int sheet, int i) {
        int refusal = readDiagram(sheet, i);
        if (refusal < 0) {
            return refusal;
        }
        return rowsOfMaps.isRight(state) ? 1 : 0;
    }

    public long connected(int sheet, int i, int a, int b, int c, int k) {
        int refusal = readDiagram(sheet, i);
        if (refusal < 0) {
            return refused(refusal);
        }
        if (!rowsOfMaps.isRight(state)) {
            return refused(STATE);
        }
        if (!isElement(a, b, c) || !isPlace(rowsOfMaps.lowerFirst(state), k)) {
            return refused(BAD);
        }
        tell(rowsOfMaps.upperLast(state), a, b, c);
        if (!rowsOfMaps.connect(state, row)) {
            return refused(NONE);
        }
        return row[k];
    }

    public int move(int what, int v) {
        if (!isMove(what, v)) {
            return BAD;
        }
        if (state.moveCount >= MOST_MOVES) {
            return FULL;
        }
        history.remember(state);
        state.takeMove(what, v);
        return state.moveCount;
    }

    public int stop(int what) {
        if (what < MOVE_PLACE || what > MOVE_NORMAL) {
            return BAD;
        }
        history.remember(state);
        state.dropMoves(what);
        return state.moveCount;
    }

    public long run(int g, int a, int b, int c, int k) {
        if (!isGroup(g) || !isElement(a, b, c) || k < 0 || k > SIZE) {
            return refused(BAD);
        }
        tell(g, a, b, c);
        int where = g;
        for (int m = 0; m < state.moveCount; m++) {
            where = makeMove(m, where);
            if (where < 0) {
                return refused(where);
            }
        }
        return k == SIZE ? where : row[k];
    }

    public int undo() {
        if (history.count == 0) {
            return NONE;
        }
        history.bringBack(state);
        return history.count;
    }

    // ---- the host

    public int sheet(int sheet, int sort, int n) {
        if (!isSheet(sheet) || sort < NO_SORT || sort > LONGS) {
            return BAD;
        }
        if (sort == NO_SORT) {
            sheets[sheet].renew(NO_SORT, 0);
            return 1;
        }
        if (n > MOST_ITEMS) {
            return BAD;
        }
        if (n < 0) {
            return BELOW_ZERO;
        }
        sheets[sheet].renew(sort, n);
        return 1;
    }

    public int put(int sheet, int i, long v) {
        if (!isSheet(sheet)) {
            return BAD;
        }
        Sheet told = sheets[sheet];
        int refusal = told.refusal(told.sort, i, 1);
        if (refusal < 0) {
            return refusal;
        }
        told.items[i] = told.sort == BYTES ? (byte) v : told.sort == INTS ? (int) v : v;
        return 1;
    }

    public int item(int sheet, int sort, int i) {
        if (!isSheet(sheet) || sort < BYTES || sort > LONGS) {
            return BAD;
        }
        int refusal = sheets[sheet].refusal(sort, i, 1);
        if (refusal < 0) {
            return refusal;
        }
        return (int) sheets[sheet].items[i];
    }

    public int lay(int shelf, int g, int a, int b, int c) {
        if (!isShelf(shelf) || !isGroup(g) || !isElement(a, b, c)) {
            return BAD;
        }
        tell(g, a, b, c);
        shelves[shelf].takeElement(g, row);
        return 1;
    }

    public int hold(int shelf, int sheet) {
        if (!isShelf(shelf) || sheet != -1 && !isSheet(sheet)) {
            return BAD;
        }
        if (sheet == -1) {
            shelves[shelf].takeRow(NO_SORT, 0);
        } else {
            shelves[shelf].takeRow(sheets[sheet].sort, sheets[sheet].length);
        }
        return 1;
    }

    public int add(int shelf, int other) {
        if (!isShelf(shelf) || !isShelf(other)) {
            return BAD;
        }
        Shelf one = shelves[shelf];
        Shelf two = shelves[other];
        if (one.isEmpty() || two.isEmpty()) {
            return MISSING;
        }
        if (one.group == NO_GROUP || one.group != two.group) {
            return UNLIKE;
        }
        for (int j = 0; j < SIZE; j++) {
            row[j] = one.numbers[j] + two.numbers[j];
        }
        return layAgain(one);
    }

    public int rest(int shelf) {
        if (!isShelf(shelf)) {
            return BAD;
        }
        Shelf one = shelves[shelf];
        if (one.isEmpty()) {
            return MISSING;
        }
        if (!isGroup(one.group)) {
            return UNLIKE;
        }
        for (int j = 0; j < SIZE; j++) {
            row[j] = one.numbers[j];
        }
        state.fillNothing(one.group, nothing);
        nothing.reduce(row);
        return layAgain(one);
    }

    public long lies(int shelf, int k) {
        if (!isShelf(shelf) || k < 0 || k > SIZE) {
            return refused(BAD);
        }
        Shelf one = shelves[shelf];
        if (one.isEmpty()) {
            return refused(MISSING);
        }
        if (one.group == NO_GROUP) {
            return refused(UNLIKE);
        }
        return k == SIZE ? one.group : one.numbers[k];
    }

    public int taken(int shelf, int as) {
        boolean isRowKind = as >= 10 && as <= 10 + LONGS;
        if (!isShelf(shelf) || !isGroup(as) && !isRowKind) {
            return BAD;
        }
        Shelf one = shelves[shelf];
        if (one.isEmpty()) {
            return MISSING;
        }
        if (isRowKind) {
            return one.sort == as - 10 ? one.length : UNLIKE;
        }
        return one.group == as ? 1 : UNLIKE;
    }

    public int many(int what) {
        switch (what) {
            case 0:
                return sumOf(state.generators);
            case 1:
                return sumOf(state.relationCounts);
            case 2:
                return state.countMaps();
            case 3:
                return setOfWell();
            case 4:
                return state.moveCount;
            case 5:
                return history.count;
            case 6:
                return reader.count;
            default:
                return BAD;
        }
    }

    // ---- kept

    public int keep() {
        kept.becomeAs(state);
        isKept = true;
        return 1;
    }

    public int again() {
        if (!isKept) {
            return NONE;
        }
        state.becomeAs(kept);
        history.forget();
        return state.countMaps();
    }

    // ---- what several calls ask

    private static boolean isGroup(int g) {
        return g >= 0 && g < GROUPS;
    }

    private static boolean isMapNumber(int f) {
        return f >= 0 && f < MAPS;
    }

    private static boolean isSheet(int sheet) {
        return sheet >= 0 && sheet < SHEETS;
    }

    private static boolean isShelf(int shelf) {
        return shelf >= 0 && shelf < SHELVES;
    }

    private static boolean isElement(int a, int b, int c) {
        return areWithin(a, b, c, ELEMENT_RANGE);
    }

    private static boolean areWithin(int a, int b, int c, int range) {
        return isWithin(a, range) && isWithin(b, range) && isWithin(c, range);
    }

    private static boolean isWithin(long v, long range) {
        return v >= -range && v <= range;
    }

    private boolean isPlace(int g, int k) {
        return isGroup(g) && k >= 0 && k < state.generators[g];
    }

    private boolean isMap(int f) {
        return state.hasMap(f);
    }

    private boolean isCell(int f, int i, int j) {
        return isMap(f) && isPlace(state.from[f], i) && isPlace(state.to[f], j);
    }

    private boolean isMove(int what, int v) {
        switch (what) {
            case MOVE_PLACE:
                return v >= 0 && v < SIZE;
            case MOVE_TIMES:
                return isWithin(v, RELATION_RANGE);
            case MOVE_MAP:
                return isMap(v);
            case MOVE_NORMAL:
                return true;
            default:
                return false;
        }
    }

    private static long refused(int refusal) {
        return LONG_REFUSAL + refusal;
    }

    private static long greatestDivisor(long a, long b) {
        long greater = Math.abs(a);
        long less = Math.abs(b);
        for (int turn = 0; turn < EUCLID_TURNS && less != 0; turn++) {
            long left = greater % less;
            greater = less;
            less = left;
        }
        return greater;
    }

    private static int sumOf(int[] numbers) {
        int sum = 0;
        for (int number : numbers) {
            sum += number;
        }
        return sum;
    }

    /** Numbers that the GROUP has not become 0, so that three by three tables fit every ELEMENT. */
    private void tell(int g, int a, int b, int c) {
        int n = isGroup(g) ? state.generators[g] : 0;
        row[0] = n > 0 ? a : 0;
        row[1] = n > 1 ? b : 0;
        row[2] = n > 2 ? c : 0;
    }

    private void workOutRings(int g, Rings wanted) {
        state.fillNothing(g, nothing);
        wanted.ofQuotient(nothing);
    }

    private static int ownRing(Rings of, int k) {
        int count = of.countOwn();
        if (k < 0) {
            return count;
        }
        return k < count ? (int) of.own(k) : NONE;
    }

    private int setOfWell() {
        int set = 0;
        for (int f = 0; f < MAPS; f++) {
            if (isMap(f) && work.load(state, f)) {
                set |= 1 << f;
            }
        }
        return set;
    }

    private int readDiagram(int sheet, int i) {
        if (!isSheet(sheet)) {
            return BAD;
        }
        int refusal = sheets[sheet].refusal(BYTES, i, Diagram.LENGTH);
        if (refusal < 0) {
            return refusal;
        }
        return rowsOfMaps.read(state, sheets[sheet].items, i) ? 1 : NONE;
    }

    /** The GROUP that the working row is of behind the MOVE, or why there is none. */
    private int makeMove(int m, int where) {
        if (m < 0 || m >= MOST_MOVES || !isGroup(where)) {
            return STATE;
        }
        int then = where;
        int v = state.moveValues[m];
        switch (state.moveSorts[m]) {
            case MOVE_PLACE:
                if (isPlace(where, v)) {
                    row[v]++;
                }
                break;
            case MOVE_TIMES:
                for (int j = 0; j < SIZE; j++) {
                    row[j] *= v;
                }
                break;
            case MOVE_MAP:
                if (!state.canMove(m, where)) {
                    return STATE;
                }
                then = state.moveRow(m, row, otherRow);
                System.arraycopy(otherRow, 0, row, 0, SIZE);
                break;
            default:
                state.fillNothing(where, nothing);
                nothing.reduce(row);
                break;
        }
        return rowIsWithin() ? then : TOO_GREAT;
    }

    private boolean rowIsWithin() {
        return isWithin(row[0], NUMBER_RANGE) && isWithin(row[1], NUMBER_RANGE) && isWithin(row[2], NUMBER_RANGE);
    }

    private int layAgain(Shelf one) {
        if (!rowIsWithin()) {
            return TOO_GREAT;
        }
        one.takeElement(one.group, row);
        return 1;
    }

    // ---- what is kept and undone

    /** GROUPS, MAPS and MOVES: just what undo() and again() bring back, so that a copy of it serves both. */
    static final class State {
        final int[] generators = new int[GROUPS];
        final int[] relationCounts = new int[GROUPS];
        final int[] relations = new int[GROUPS * MOST_RELATIONS * SIZE];
        final int[] from = new int[MAPS];
        final int[] to = new int[MAPS];
        final int[] tables = new int[MAPS * CELLS];
        int moveCount = 0;
        final int[] moveSorts = new int[MOST_MOVES];
        final int[] moveValues = new int[MOST_MOVES];
        final int[] moveFrom = new int[MOST_MOVES];
        final int[] moveTo = new int[MOST_MOVES];
        final int[] moveFromSizes = new int[MOST_MOVES];
        final int[] moveToSizes = new int[MOST_MOVES];
        final int[] moveTables = new int[MOST_MOVES * CELLS];

        State() {
            Arrays.fill(from, NO_GROUP);
            Arrays.fill(to, NO_GROUP);
        }

        void becomeAs(State other) {
            copyAll(other.generators, generators);
            copyAll(other.relationCounts, relationCounts);
            copyAll(other.relations, relations);
            copyAll(other.from, from);
            copyAll(other.to, to);
            copyAll(other.tables, tables);
            moveCount = other.moveCount;
            copyAll(other.moveSorts, moveSorts);
            copyAll(other.moveValues, moveValues);
            copyAll(other.moveFrom, moveFrom);
            copyAll(other.moveTo, moveTo);
            copyAll(other.moveFromSizes, moveFromSizes);
            copyAll(other.moveToSizes, moveToSizes);
            copyAll(other.moveTables, moveTables);
        }

        private static void copyAll(int[] source, int[] target) {
            System.arraycopy(source, 0, target, 0, Math.min(source.length, target.length));
        }

        void renewGroup(int g, int n) {
            generators[g] = n;
            relationCounts[g] = 0;
            for (int f = 0; f < MAPS; f++) {
                if (from[f] == g || to[f] == g) {
                    from[f] = NO_GROUP;
                    to[f] = NO_GROUP;
                }
            }
        }

        void takeRelation(int g, long[] numbers) {
            int start = (g * MOST_RELATIONS + relationCounts[g]) * SIZE;
            for (int j = 0; j < SIZE; j++) {
                relations[start + j] = (int) numbers[j];
            }
            relationCounts[g]++;
        }

        void fillNothing(int g, Lattice lattice) {
            lattice.clear(generators[g]);
            for (int r = 0; r < relationCounts[g]; r++) {
                for (int j = 0; j < SIZE; j++) {
                    lattice.coming[j] = relations[(g * MOST_RELATIONS + r) * SIZE + j];
                }
                lattice.insertComing();
            }
        }

        boolean hasMap(int f) {
            return f >= 0 && f < MAPS && from[f] != NO_GROUP;
        }

        int countMaps() {
            int count = 0;
            for (int f = 0; f < MAPS; f++) {
                count += hasMap(f) ? 1 : 0;
            }
            return count;
        }

        void renewMap(int f, int g, int h) {
            from[f] = g;
            to[f] = h;
            Arrays.fill(tables, CELLS * f, CELLS * f + CELLS, 0);
        }

        void takeMap(int f, Table told) {
            from[f] = told.from;
            to[f] = told.to;
            for (int cell = 0; cell < CELLS; cell++) {
                tables[CELLS * f + cell] = (int) told.cells[cell];
            }
        }

        void mapRow(int f, long[] element, long[] image) {
            applyTable(tables, CELLS * f, element, image);
        }

        /** False, if some RELATION of the one GROUP is sent to something that is not in NOTHING of the other one. */
        boolean respectsRelations(int f, Lattice target, long[] element, long[] image) {
            int g = from[f];
            for (int r = 0; r < relationCounts[g]; r++) {
                for (int j = 0; j < SIZE; j++) {
                    element[j] = relations[(g * MOST_RELATIONS + r) * SIZE + j];
                }
                mapRow(f, element, image);
                if (!target.swallows(image)) {
                    return false;
                }
            }
            return true;
        }

        void takeMove(int what, int v) {
            moveSorts[moveCount] = what;
            moveValues[moveCount] = v;
            if (what == MOVE_MAP) {
                moveFrom[moveCount] = from[v];
                moveTo[moveCount] = to[v];
                moveFromSizes[moveCount] = generators[from[v]];
                moveToSizes[moveCount] = generators[to[v]];
                System.arraycopy(tables, CELLS * v, moveTables, CELLS * moveCount, CELLS);
            }
            moveCount++;
        }

        void dropMoves(int what) {
            int left = 0;
            for (int m = 0; m < moveCount; m++) {
                if (moveSorts[m] != what) {
                    shiftMove(m, left);
                    left++;
                }
            }
            moveCount = left;
        }

        private void shiftMove(int source, int target) {
            moveSorts[target] = moveSorts[source];
            moveValues[target] = moveValues[source];
            moveFrom[target] = moveFrom[source];
            moveTo[target] = moveTo[source];
            moveFromSizes[target] = moveFromSizes[source];
            moveToSizes[target] = moveToSizes[source];
            System.arraycopy(moveTables, CELLS * source, moveTables, CELLS * target, CELLS);
        }

        boolean canMove(int m, int where) {
            return moveFrom[m] == where
                && moveFromSizes[m] == generators[moveFrom[m]]
                && moveToSizes[m] == generators[moveTo[m]];
        }

        int moveRow(int m, long[] element, long[] image) {
            applyTable(moveTables, CELLS * m, element, image);
            return moveTo[m];
        }

        private static void applyTable(int[] numbers, int start, long[] element, long[] image) {
            for (int j = 0; j < SIZE; j++) {
                long sum = 0;
                for (int i = 0; i < SIZE; i++) {
                    sum += element[i] * numbers[start + SIZE * i + j];
                }
                image[j] = sum;
            }
        }
    }

    /** The states ahead of the latest CHANGES, in a ring, so that the oldest gives way. */
    static final class History {
        private final State[] states = new State[MOST_CHANGES];
        private int next = 0;
        int count = 0;

        History() {
            for (int i = 0; i < MOST_CHANGES; i++) {
                states[i] = new State();
            }
        }

        void remember(State state) {
            states[next].becomeAs(state);
            next = (next + 1) % MOST_CHANGES;
            count = Math.min(count + 1, MOST_CHANGES);
        }

        void bringBack(State state) {
            if (count > 0) {
                next = (next + MOST_CHANGES - 1) % MOST_CHANGES;
                count--;
                state.becomeAs(states[next]);
            }
        }

        void forget() {
            count = 0;
        }
    }

    // ---- lattices

    /**
     * Whole rows, closed under adding and taking away, by their reduced Hermite basis: rows[k] is the basis row
     * that leads at place k (all 0, if none does), its lead above 0, and its numbers at later leads from 0 to
     * those less 1. Rows come one by one and are reduced on the way, which keeps all numbers far inside a long.
     */
    static final class Lattice {
        private final long[][] rows = new long[WIDEST][WIDEST];
        final long[] coming = new long[WIDEST];
        int width = 0;

        void clear(int newWidth) {
            width = Math.max(0, Math.min(newWidth, WIDEST));
            for (int k = 0; k < WIDEST; k++) {
                Arrays.fill(rows[k], 0L);
            }
        }

        void insert(long[] row) {
            System.arraycopy(row, 0, coming, 0, width);
            insertComing();
        }

        /** The coming row, which is used up, is of the lattice then. */
        void insertComing() {
            for (int k = 0; k < width; k++) {
                reduceFrom(coming, k);
                if (coming[k] != 0 && rows[k][k] == 0) {
                    settleAt(k);
                    break;
                }
                if (coming[k] != 0) {
                    meetAt(k);
                }
            }
            for (int k = width - 1; k >= 0; k--) {
                reduceFrom(rows[k], k + 1);
            }
        }

        private void settleAt(int k) {
            long sign = coming[k] < 0 ? -1 : 1;
            for (int j = k; j < width; j++) {
                rows[k][j] = sign * coming[j];
            }
        }

        /** Euclid's way with whole rows: the greatest divisor of the two leads stays as lead, the other becomes 0. */
        private void meetAt(int k) {
            for (int turn = 0; turn < EUCLID_TURNS && coming[k] != 0; turn++) {
                long times = rows[k][k] / coming[k];
                for (int j = k; j < width; j++) {
                    long left = rows[k][j] - times * coming[j];
                    rows[k][j] = coming[j];
                    coming[j] = left;
                }
            }
        }

        private void reduceFrom(long[] row, int first) {
            for (int k = first; k < width; k++) {
                long lead = rows[k][k];
                if (lead != 0) {
                    long times = Math.floorDiv(row[k], lead);
                    for (int j = k; j < width && times != 0; j++) {
                        row[j] -= times * rows[k][j];
                    }
                }
            }
        }

        void reduce(long[] row) {
            reduceFrom(row, 0);
        }

        /** True, if the row, which is used up, is of the lattice. */
        boolean swallows(long[] row) {
            reduceFrom(row, 0);
            return startsWithZeros(row, width);
        }

        private static boolean startsWithZeros(long[] row, int n) {
            for (int j = 0; j < n; j++) {
                if (row[j] != 0) {
                    return false;
                }
            }
            return true;
        }

        long lead(int k) {
            return k >= 0 && k < width ? rows[k][k] : 0;
        }

        int rank() {
            int rank = 0;
            for (int k = 0; k < width; k++) {
                rank += rows[k][k] != 0 ? 1 : 0;
            }
            return rank;
        }

        /** How many rows there are by the lattice; 0, if endless many. */
        long index() {
            long index = 1;
            for (int k = 0; k < width; k++) {
                index *= rows[k][k];
            }
            return index;
        }

        /** How many rows a lattice around this one has by this one; 0, if endless many. */
        long indexWithin(Lattice around) {
            if (around.width != width || around.rank() != rank()) {
                return 0;
            }
            long mine = 1;
            long theirs = 1;
            for (int k = 0; k < width; k++) {
                mine *= Math.max(1, rows[k][k]);
                theirs *= Math.max(1, around.rows[k][k]);
            }
            return mine / theirs;
        }

        /** The least number above 0, so many times the row (which is used up) is of the lattice; 0, if there is none. */
        long orderOf(long[] row) {
            long order = 1;
            for (int k = 0; k < width; k++) {
                reduceFrom(row, k);
                long lead = rows[k][k];
                if (row[k] != 0 && lead == 0) {
                    return 0;
                }
                if (row[k] != 0) {
                    long times = lead / greatestDivisor(row[k], lead);
                    order *= times;
                    for (int j = k; j < width; j++) {
                        row[j] *= times;
                    }
                    reduceFrom(row, k);
                }
            }
            return order;
        }

        /** A reduced basis is the only one of its lattice, so that the same rows tell the same lattice. */
        boolean isAs(Lattice other) {
            if (other.width != width) {
                return false;
            }
            for (int k = 0; k < width; k++) {
                for (int j = k; j < width; j++) {
                    if (rows[k][j] != other.rows[k][j]) {
                        return false;
                    }
                }
            }
            return true;
        }

        void becomeFirstPlaces(Lattice wide, int n) {
            clear(n);
            for (int k = 0; k < width; k++) {
                System.arraycopy(wide.rows[k], 0, rows[k], 0, width);
            }
        }

        /** The rows of the wide lattice that have 0 at the first n places, without these. */
        void becomeLastPlaces(Lattice wide, int n) {
            clear(wide.width - n);
            for (int k = 0; k < width && n >= 0; k++) {
                System.arraycopy(wide.rows[n + k], n, rows[k], 0, width);
            }
        }

        /** Becomes a lattice that is inside of another one, told by how often each basis row of that is in it. */
        void becomeInside(Lattice inner, Lattice outer) {
            clear(outer.rank());
            for (int k = 0; k < inner.width; k++) {
                if (inner.rows[k][k] != 0) {
                    outer.measure(inner.rows[k], coming);
                    insertComing();
                }
            }
        }

        private void measure(long[] row, long[] times) {
            System.arraycopy(row, 0, coming, 0, width);
            int place = 0;
            for (int k = 0; k < width; k++) {
                if (rows[k][k] != 0) {
                    times[place] = coming[k] / rows[k][k];
                    for (int j = width - 1; j >= k; j--) {
                        coming[j] -= times[place] * rows[k][j];
                    }
                    place++;
                }
            }
        }

        /** The greatest number that divides all minors of a size from 1 to 3 (size 3: of three rows of three). */
        long divisorOfMinors(int size) {
            if (size == SIZE) {
                return index();
            }
            long divisor = 0;
            for (int k = 0; k < width; k++) {
                for (int j = k; j < width; j++) {
                    divisor = greatestDivisor(divisor, size == 1 ? rows[k][j] : divisorOfTwoRows(k, j));
                }
            }
            return divisor;
        }

        private long divisorOfTwoRows(int k, int l) {
            long divisor = 0;
            for (int i = 0; i < width; i++) {
                for (int j = i + 1; j < width; j++) {
                    divisor = greatestDivisor(divisor, rows[k][i] * rows[l][j] - rows[k][j] * rows[l][i]);
                }
            }
            return divisor;
        }
    }

    /** The RINGS of a group, each of which divides the next one. */
    static final class Rings {
        final long[] numbers = new long[CELLS];
        int count = 0;

        /** By the divisors of minors: these do not depend on how the lattice is told. */
        void ofQuotient(Lattice lattice) {
            count = Math.min(lattice.width, SIZE);
            int rank = lattice.rank();
            long before = 1;
            for (int i = 0; i < count; i++) {
                long divisor = i < rank ? lattice.divisorOfMinors(i + 1) : 0;
                numbers[i] = before == 0 ? 0 : divisor / before;
                before = divisor;
            }
        }

        void ofTwoGroups(int what, Rings first, Rings second) {
            count = 0;
            if (what == SUM) {
                takeAll(first);
                takeAll(second);
            } else {
                for (int i = 0; i < first.count; i++) {
                    for (int j = 0; j < second.count; j++) {
                        take(ofPair(what, first.numbers[i], second.numbers[j]));
                    }
                }
            }
            makeEachDivideTheNext();
        }

        private void takeAll(Rings others) {
            for (int i = 0; i < others.count; i++) {
                take(others.numbers[i]);
            }
        }

        private void take(long number) {
            if (count < CELLS) {
                numbers[count] = number;
                count++;
            }
        }

        private static long ofPair(int what, long r, long s) {
            if (r != 0 && s != 0) {
                return greatestDivisor(r, s);
            }
            switch (what) {
                case HOM:
                    return r == 0 ? s : 1;
                case TENSOR:
                    return s == 0 ? r : s;
                case EXTENSION:
                    return r == 0 ? 1 : r;
                default:
                    return 1;
            }
        }

        /** Rings of r and of s together are those of their greatest divisor and their least multiple. */
        private void makeEachDivideTheNext() {
            for (int i = 0; i < count; i++) {
                for (int j = i + 1; j < count; j++) {
                    long divisor = greatestDivisor(numbers[i], numbers[j]);
                    if (divisor != 0) {
                        numbers[j] = numbers[i] / divisor * numbers[j];
                        numbers[i] = divisor;
                    }
                }
            }
        }

        int countOwn() {
            int own = 0;
            for (int i = 0; i < count; i++) {
                own += numbers[i] != 1 ? 1 : 0;
            }
            return own;
        }

        /** Those that are 1 divide all others, so that they come first. */
        long own(int k) {
            int place = count - countOwn() + k;
            return place >= 0 && place < count ? numbers[place] : 1;
        }

        boolean haveSameOwn(Rings others) {
            int own = countOwn();
            if (others.countOwn() != own) {
                return false;
            }
            for (int k = 0; k < own; k++) {
                if (own(k) != others.own(k)) {
                    return false;
                }
            }
            return true;
        }
    }

    // ---- maps, worked out

    /** A MAP with the lattices that it makes. load() comes first, then, if it is WELL, workOut(). */
    static final class MapWork {
        private final Lattice source = new Lattice();
        final Lattice target = new Lattice();
        final Lattice reach = new Lattice();
        final Lattice kernel = new Lattice();
        private final Lattice pairs = new Lattice();
        private final Lattice inside = new Lattice();
        private final long[] pair = new long[WIDEST];
        private final long[] image = new long[WIDEST];

        /** True, if it is WELL. */
        boolean load(State state, int f) {
            state.fillNothing(state.from[f], source);
            state.fillNothing(state.to[f], target);
            return state.respectsRelations(f, target, pair, image);
        }

        /**
         * All pairs of a row that is ONE with the IMAGE of an ELEMENT, and that ELEMENT, are one lattice: its first
         * places are what is REACHED, and its rows with 0 there tell the KERNEL.
         */
        void workOut(State state, int f) {
            int n = source.width;
            int m = target.width;
            pairs.clear(m + n);
            Arrays.fill(pair, 0L);
            for (int k = 0; k < m; k++) {
                System.arraycopy(target.rows[k], 0, pair, 0, m);
                pairs.insert(pair);
            }
            for (int i = 0; i < n; i++) {
                Arrays.fill(pair, 0L);
                for (int j = 0; j < m; j++) {
                    pair[j] = state.tables[CELLS * f + SIZE * i + j];
                }
                pair[m + i] = 1;
                pairs.insert(pair);
            }
            reach.becomeFirstPlaces(pairs, m);
            kernel.becomeLastPlaces(pairs, m);
        }

        boolean isOneToOne() {
            return kernel.isAs(source);
        }

        boolean isOnto() {
            return reach.index() == 1;
        }

        void fillRings(int what, Rings rings) {
            switch (what) {
                case KERNEL:
                    inside.becomeInside(source, kernel);
                    rings.ofQuotient(inside);
                    break;
                case REACHES:
                    // what is REACHED is as the GROUP that the MAP is from, by the KERNEL
                    rings.ofQuotient(kernel);
                    break;
                default:
                    rings.ofQuotient(reach);
                    break;
            }
        }

        /** The row becomes one of which the IMAGE is ONE with it, NORMAL by the KERNEL; false, if there is none. */
        boolean goBack(long[] row) {
            int n = source.width;
            int m = target.width;
            Arrays.fill(pair, 0L);
            System.arraycopy(row, 0, pair, 0, m);
            pairs.reduce(pair);
            if (!Lattice.startsWithZeros(pair, m)) {
                return false;
            }
            Arrays.fill(row, 0L);
            for (int i = 0; i < n; i++) {
                row[i] = -pair[m + i];
            }
            kernel.reduce(row);
            return true;
        }
    }

    /** Seven MAPS in two rows. */
    static final class Diagram {
        static final int LENGTH = 7;
        private static final int F = 0, E = 1, F2 = 2, E2 = 3, P = 4, Q = 5, R = 6;

        private final int[] maps = new int[LENGTH];
        private final MapWork work = new MapWork();
        private final MapWork nextWork = new MapWork();
        private final long[] start = new long[WIDEST];
        private final long[] middle = new long[WIDEST];
        private final long[] end = new long[WIDEST];
        private final long[] otherEnd = new long[WIDEST];

        /** False, if one is no MAP, or they do not go from GROUP to GROUP as they must. */
        boolean read(State state, long[] items, int first) {
            for (int m = 0; m < LENGTH; m++) {
                maps[m] = (int) items[first + m];
                if (!state.hasMap(maps[m])) {
                    return false;
                }
            }
            return to(state, F) == from(state, E) && to(state, F) == from(state, Q)
                && to(state, F2) == from(state, E2) && to(state, F2) == to(state, Q)
                && from(state, F) == from(state, P) && to(state, P) == from(state, F2)
                && to(state, E) == from(state, R) && to(state, R) == to(state, E2);
        }

        private int from(State state, int m) {
            return state.from[maps[m]];
        }

        private int to(State state, int m) {
            return state.to[maps[m]];
        }

        int lowerFirst(State state) {
            return from(state, F2);
        }

        int upperLast(State state) {
            return to(state, E);
        }

        boolean isRight(State state) {
            for (int m = 0; m < LENGTH; m++) {
                if (!work.load(state, maps[m])) {
                    return false;
                }
            }
            return rowIsExact(state, F, E) && nextWork.isOnto()
                && rowIsExact(state, F2, E2) && work.isOneToOne()
                && waysAgree(state, F, Q, P, F2) && waysAgree(state, Q, E2, E, R);
        }

        private boolean rowIsExact(State state, int first, int second) {
            work.load(state, maps[first]);
            work.workOut(state, maps[first]);
            nextWork.load(state, maps[second]);
            nextWork.workOut(state, maps[second]);
            return work.reach.isAs(nextWork.kernel);
        }

        private boolean waysAgree(State state, int first, int then, int otherFirst, int otherThen) {
            state.fillNothing(to(state, then), work.target);
            int n = state.generators[from(state, first)];
            for (int i = 0; i < n; i++) {
                Arrays.fill(start, 0L);
                start[i] = 1;
                goBoth(state, first, then, end);
                goBoth(state, otherFirst, otherThen, otherEnd);
                for (int j = 0; j < SIZE; j++) {
                    end[j] -= otherEnd[j];
                }
                if (!work.target.swallows(end)) {
                    return false;
                }
            }
            return true;
        }

        private void goBoth(State state, int first, int then, long[] image) {
            state.mapRow(maps[first], start, middle);
            state.mapRow(maps[then], middle, image);
        }

        /** An ELEMENT of C becomes what it is CONNECTED with; false, if it is not of the KERNEL of r. */
        boolean connect(State state, long[] row) {
            state.mapRow(maps[R], row, end);
            state.fillNothing(to(state, R), work.target);
            if (!work.target.swallows(end)) {
                return false;
            }
            work.load(state, maps[E]);
            work.workOut(state, maps[E]);
            if (!work.goBack(row)) {
                return false;
            }
            state.mapRow(maps[Q], row, end);
            System.arraycopy(end, 0, row, 0, SIZE);
            work.load(state, maps[F2]);
            work.workOut(state, maps[F2]);
            work.target.reduce(row);
            if (!work.goBack(row)) {
                return false;
            }
            work.load(state, maps[P]);
            work.workOut(state, maps[P]);
            work.reach.reduce(row);
            return true;
        }
    }

    // ---- maps told in a text

    /** A table that is worked out; cells that its GROUPS have not are 0, so that all tables are three by three. */
    static final class Table {
        int from = NO_GROUP;
        int to = NO_GROUP;
        final long[] cells = new long[CELLS];
        private final long[] line = new long[SIZE];

        void becomeAs(Table other) {
            from = other.from;
            to = other.to;
            System.arraycopy(other.cells, 0, cells, 0, CELLS);
        }

        void becomeMap(State state, int f) {
            from = state.from[f];
            to = state.to[f];
            for (int cell = 0; cell < CELLS; cell++) {
                cells[cell] = state.tables[CELLS * f + cell];
            }
        }

        void multiply(long times) {
            for (int cell = 0; cell < CELLS; cell++) {
                cells[cell] *= times;
            }
        }

        void increase(Table other, long times) {
            for (int cell = 0; cell < CELLS; cell++) {
                cells[cell] += times * other.cells[cell];
            }
        }

        void goOn(Table next) {
            to = next.to;
            for (int i = 0; i < SIZE; i++) {
                for (int j = 0; j < SIZE; j++) {
                    long sum = 0;
                    for (int k = 0; k < SIZE; k++) {
                        sum += cells[SIZE * i + k] * next.cells[SIZE * k + j];
                    }
                    line[j] = sum;
                }
                System.arraycopy(line, 0, cells, SIZE * i, SIZE);
            }
        }

        void makeNormal(Lattice nothing) {
            for (int i = 0; i < SIZE; i++) {
                System.arraycopy(cells, SIZE * i, line, 0, SIZE);
                nothing.reduce(line);
                System.arraycopy(line, 0, cells, SIZE * i, SIZE);
            }
        }

        boolean isWithin(long range) {
            for (int cell = 0; cell < CELLS; cell++) {
                if (cells[cell] < -range || cells[cell] > range) {
                    return false;
                }
            }
            return true;
        }
    }

    /**
     * THE TAPE and what it tells. One walk does all; what is wrong beside a FAULT is only noted on the way, since a
     * FAULT behind it, or a wrong of a sort that is named earlier, goes ahead of it.
     */
    static final class TextReader {
        private static final int END = -1;

        private final int[] tape = new int[MOST_BYTES];
        int count = 0;
        private int place = 0;
        private boolean isFaulty = false;
        private boolean namesNoMap = false;
        private boolean doesNotFit = false;
        private boolean isTooGreat = false;
        private final Table[] sums = new Table[DEEPEST + 1];
        private final Table[] chains = new Table[DEEPEST + 1];
        private final Table[] ones = new Table[DEEPEST + 1];

        TextReader() {
            for (int depth = 0; depth <= DEEPEST; depth++) {
                sums[depth] = new Table();
                chains[depth] = new Table();
                ones[depth] = new Table();
            }
        }

        void take(long eight, int n) {
            for (int i = 0; i < n && count < MOST_BYTES; i++) {
                tape[count] = (int) (eight >>> (8 * i)) & 255;
                count++;
            }
        }

        Table told() {
            return sums[0];
        }

        /** 1, or why nothing is told; THE TAPE is used up. */
        int read(State state) {
            place = 0;
            isFaulty = false;
            namesNoMap = false;
            doesNotFit = false;
            isTooGreat = false;
            readSum(state, 0);
            if (!isFaulty && look() != END) {
                isFaulty = true;
            }
            count = 0;
            if (isFaulty) {
                return FAULT_AT_START - place;
            }
            if (namesNoMap) {
                return NAMES_NO_MAP;
            }
            if (doesNotFit) {
                return DOES_NOT_FIT;
            }
            return isTooGreat ? TOO_GREAT : 1;
        }

        /** The next byte that is no blank, which then stands at place. */
        private int look() {
            while (place < count && tape[place] == ' ') {
                place++;
            }
            return place < count ? tape[place] : END;
        }

        private boolean takeIf(int wanted) {
            if (look() != wanted) {
                return false;
            }
            place++;
            return true;
        }

        private void readSum(State state, int depth) {
            boolean isTakenAway = takeIf('-');
            readChain(state, depth);
            Table sum = sums[depth];
            sum.becomeAs(chains[depth]);
            if (isTakenAway) {
                sum.multiply(-1);
            }
            for (int turn = 0; turn < MOST_BYTES && !isFaulty; turn++) {
                int sign = look();
                if (sign != '+' && sign != '-') {
                    break;
                }
                place++;
                readChain(state, depth);
                Table chain = chains[depth];
                doesNotFit |= chain.from != sum.from || chain.to != sum.to;
                sum.increase(chain, sign == '+' ? 1 : -1);
                watch(sum);
            }
        }

        private void readChain(State state, int depth) {
            readOne(state, depth);
            Table chain = chains[depth];
            chain.becomeAs(ones[depth]);
            for (int turn = 0; turn < MOST_BYTES && !isFaulty && takeIf('.'); turn++) {
                readOne(state, depth);
                doesNotFit |= ones[depth].from != chain.to;
                chain.goOn(ones[depth]);
                watch(chain);
            }
        }

        private void readOne(State state, int depth) {
            int times = look();
            boolean isNumbered = times >= '0' && times <= '9';
            if (isNumbered) {
                place++;
            }
            int sign = look();
            if (sign >= 'a' && sign < 'a' + MAPS) {
                place++;
                readMap(state, sign - 'a', depth);
            } else if (sign == '(' && depth < DEEPEST) {
                place++;
                readSum(state, depth + 1);
                isFaulty = isFaulty || !takeIf(')');
                ones[depth].becomeAs(sums[depth + 1]);
            } else {
                isFaulty = true;
            }
            if (isNumbered) {
                ones[depth].multiply(times - '0');
                watch(ones[depth]);
            }
        }

        private void readMap(State state, int f, int depth) {
            namesNoMap |= !state.hasMap(f);
            ones[depth].becomeMap(state, f);
        }

        /** A table that is too great becomes 0, so that what is worked out with it stays inside a long. */
        private void watch(Table table) {
            if (!table.isWithin(NUMBER_RANGE)) {
                isTooGreat = true;
                table.multiply(0);
            }
        }
    }

    // ---- the host's things

    /** A row of items of a sort, or missing. */
    static final class Sheet {
        int sort = NO_SORT;
        int length = 0;
        final long[] items = new long[MOST_ITEMS];

        void renew(int newSort, int newLength) {
            sort = newSort;
            length = newLength;
            Arrays.fill(items, 0L);
        }

        /** Why n items of a sort from a place on can't be had, or 0; of no items none lies outside, at any place. */
        int refusal(int wanted, int place, int n) {
            if (sort == NO_SORT) {
                return MISSING;
            }
            if (sort != wanted) {
                return UNLIKE;
            }
            boolean isOutside = n > 0 && (place < 0 || place > length - n);
            return isOutside ? OUTSIDE : 0;
        }

        boolean areWithin(int place, int n, long range) {
            for (int i = place; i < place + n; i++) {
                if (items[i] < -range || items[i] > range) {
                    return false;
                }
            }
            return true;
        }
    }

    /** An ELEMENT (its group is told), a row of a SHEET (its sort is told), or nothing (neither). */
    static final class Shelf {
        int group = NO_GROUP;
        final long[] numbers = new long[SIZE];
        int sort = NO_SORT;
        int length = 0;

        boolean isEmpty() {
            return group == NO_GROUP && sort == NO_SORT;
        }

        void takeElement(int g, long[] element) {
            group = g;
            sort = NO_SORT;
            length = 0;
            System.arraycopy(element, 0, numbers, 0, SIZE);
        }

        /** A row that was laid stays as long as it was, whatever its SHEET becomes; so its length is enough. */
        void takeRow(int newSort, int newLength) {
            group = NO_GROUP;
            sort = newSort;
            length = newLength;
        }
    }
}
