import java.math.BigInteger;
import java.util.ArrayList;
import java.util.Arrays;
import java.util.List;
import java.util.Random;

/**
 * Drawn runs of calls, each asked of the program and of a second one that is plain and slow: numbers of any size,
 * whole tables of what was done to rows, orders by trying, texts by a tree, copies of everything for each change.
 */
public final class OracleTest {
    private static int wrong = 0;
    private static long calls = 0;
    private static int rightDiagrams = 0, connections = 0, toldMaps = 0, wellMaps = 0, whences = 0, runs = 0;

    public static void main(String[] args) {
        int rounds = args.length > 0 ? Integer.parseInt(args[0]) : 1200;
        long seed = args.length > 1 ? Long.parseLong(args[1]) : 20261118L;
        for (int round = 0; round < rounds && wrong < 20; round++) {
            new Driver(new Random(seed + round), round).play();
        }
        System.out.println(calls + " calls; right diagrams " + rightDiagrams + ", connections " + connections
            + ", maps told " + toldMaps + ", answers of maps that are well " + wellMaps + ", whence " + whences
            + ", runs " + runs);
        boolean isThin = rounds >= 1000 && (rightDiagrams < 500 || connections < 500 || toldMaps < 500
            || wellMaps < 500 || whences < 500 || runs < 500);
        if (isThin) {
            System.out.println("too few of some sort were drawn");
        }
        if (wrong > 0 || isThin) {
            System.exit(1);
        }
    }

    // ------------------------------------------------------------------ lattices, plain

    static BigInteger big(long v) {
        return BigInteger.valueOf(v);
    }

    /** Rows with what was done to them: made an echelon, column by column, over all rows at once. */
    static final class Echelon {
        final List<BigInteger[]> rows = new ArrayList<>();
        final List<BigInteger[]> done = new ArrayList<>();
        final int[] leads;
        int rank = 0;
        final int width;

        Echelon(List<BigInteger[]> given, int width) {
            this.width = width;
            leads = new int[width];
            Arrays.fill(leads, -1);
            for (int i = 0; i < given.size(); i++) {
                rows.add(given.get(i).clone());
                BigInteger[] unit = new BigInteger[given.size()];
                Arrays.fill(unit, BigInteger.ZERO);
                unit[i] = BigInteger.ONE;
                done.add(unit);
            }
            for (int c = 0; c < width; c++) {
                if (clear(c)) {
                    leads[c] = rank;
                    if (rows.get(rank)[c].signum() < 0) {
                        scale(rank);
                    }
                    rank++;
                }
            }
        }

        private void scale(int r) {
            for (BigInteger[] row : List.of(rows.get(r), done.get(r))) {
                for (int j = 0; j < row.length; j++) {
                    row[j] = row[j].negate();
                }
            }
        }

        private void subtract(int r, int other, BigInteger times) {
            less(rows.get(r), rows.get(other), times);
            less(done.get(r), done.get(other), times);
        }

        private static void less(BigInteger[] row, BigInteger[] other, BigInteger times) {
            for (int j = 0; j < row.length; j++) {
                row[j] = row[j].subtract(other[j].multiply(times));
            }
        }

        private void swap(int r, int other) {
            BigInteger[] row = rows.get(r);
            rows.set(r, rows.get(other));
            rows.set(other, row);
            row = done.get(r);
            done.set(r, done.get(other));
            done.set(other, row);
        }

        private boolean clear(int c) {
            while (true) {
                int least = -1;
                int some = 0;
                for (int r = rank; r < rows.size(); r++) {
                    if (rows.get(r)[c].signum() != 0) {
                        some++;
                        if (least < 0 || rows.get(r)[c].abs().compareTo(rows.get(least)[c].abs()) < 0) {
                            least = r;
                        }
                    }
                }
                if (some == 0) {
                    return false;
                }
                swap(rank, least);
                if (some == 1) {
                    return true;
                }
                for (int r = rank + 1; r < rows.size(); r++) {
                    subtract(r, rank, rows.get(r)[c].divide(rows.get(rank)[c]));
                }
            }
        }

        BigInteger step(int k) {
            return leads[k] < 0 ? BigInteger.ZERO : rows.get(leads[k])[k];
        }

        /** How often each given row is taken away so that the row becomes normal; the row is changed. */
        BigInteger[] normalize(BigInteger[] row) {
            BigInteger[] times = new BigInteger[done.isEmpty() ? 0 : done.get(0).length];
            Arrays.fill(times, BigInteger.ZERO);
            for (int c = 0; c < width; c++) {
                if (leads[c] >= 0) {
                    BigInteger lead = rows.get(leads[c])[c];
                    BigInteger q = row[c].subtract(row[c].mod(lead)).divide(lead);
                    less(row, rows.get(leads[c]), q);
                    less(times, done.get(leads[c]), q.negate());
                }
            }
            return times;
        }

        boolean has(BigInteger[] row) {
            BigInteger[] left = row.clone();
            normalize(left);
            return isZero(left);
        }

        boolean hasAll(Echelon other) {
            for (BigInteger[] row : other.rows) {
                if (!has(row)) {
                    return false;
                }
            }
            return true;
        }
    }

    static boolean isZero(BigInteger[] row) {
        for (BigInteger v : row) {
            if (v.signum() != 0) {
                return false;
            }
        }
        return true;
    }

    /** The rings of n generators by rows: Smith's form by row and column steps. */
    static List<BigInteger> smith(List<BigInteger[]> given, int n) {
        List<BigInteger[]> rows = new ArrayList<>();
        for (BigInteger[] row : given) {
            rows.add(Arrays.copyOf(row, n));
        }
        List<BigInteger> diagonal = new ArrayList<>();
        for (int d = 0; d < n; d++) {
            diagonal.add(smithStep(rows, n, d));
        }
        for (int i = 0; i < n; i++) {
            for (int j = i + 1; j < n; j++) {
                BigInteger a = diagonal.get(i);
                BigInteger b = diagonal.get(j);
                BigInteger g = a.gcd(b);
                diagonal.set(i, g);
                diagonal.set(j, g.signum() == 0 ? BigInteger.ZERO : a.multiply(b).divide(g));
            }
        }
        return diagonal;
    }

    private static BigInteger smithStep(List<BigInteger[]> rows, int n, int d) {
        while (true) {
            int r = -1;
            int c = -1;
            for (int i = d; i < rows.size(); i++) {
                for (int j = d; j < n; j++) {
                    BigInteger v = rows.get(i)[j].abs();
                    if (v.signum() != 0 && (r < 0 || v.compareTo(rows.get(r)[c].abs()) < 0)) {
                        r = i;
                        c = j;
                    }
                }
            }
            if (r < 0) {
                return BigInteger.ZERO;
            }
            BigInteger[] row = rows.get(r);
            rows.set(r, rows.get(d));
            rows.set(d, row);
            for (BigInteger[] each : rows) {
                BigInteger v = each[c];
                each[c] = each[d];
                each[d] = v;
            }
            boolean isClean = true;
            for (int i = d + 1; i < rows.size(); i++) {
                Echelon.less(rows.get(i), row, rows.get(i)[d].divide(row[d]));
                isClean &= rows.get(i)[d].signum() == 0;
            }
            for (int j = d + 1; j < n; j++) {
                BigInteger q = row[j].divide(row[d]);
                for (BigInteger[] each : rows) {
                    each[j] = each[j].subtract(each[d].multiply(q));
                }
                isClean &= row[j].signum() == 0;
            }
            if (isClean) {
                return row[d].abs();
            }
        }
    }

    // ------------------------------------------------------------------ the second program

    static final class Refusal extends RuntimeException {
        private static final long serialVersionUID = 1L;
        final int code;

        Refusal(int code) {
            super(null, null, false, false);
            this.code = code;
        }
    }

    static final class Group {
        int n = 0;
        List<int[]> relations = new ArrayList<>();

        Group copy() {
            Group g = new Group();
            g.n = n;
            g.relations = new ArrayList<>(relations);
            return g;
        }

        List<BigInteger[]> rows() {
            List<BigInteger[]> rows = new ArrayList<>();
            for (int[] r : relations) {
                BigInteger[] row = new BigInteger[n];
                for (int j = 0; j < n; j++) {
                    row[j] = big(r[j]);
                }
                rows.add(row);
            }
            return rows;
        }

        Echelon nothing() {
            return new Echelon(rows(), n);
        }

        List<BigInteger> rings() {
            return smith(rows(), n);
        }
    }

    static final class Arrow {
        int from, to, n, m;
        BigInteger[][] table;

        Arrow(int from, int to, int n, int m) {
            this.from = from;
            this.to = to;
            this.n = n;
            this.m = m;
            table = new BigInteger[n][m];
            for (BigInteger[] row : table) {
                Arrays.fill(row, BigInteger.ZERO);
            }
        }

        Arrow copy() {
            Arrow a = new Arrow(from, to, n, m);
            for (int i = 0; i < n; i++) {
                a.table[i] = table[i].clone();
            }
            return a;
        }

        BigInteger[] image(BigInteger[] x) {
            BigInteger[] y = new BigInteger[m];
            Arrays.fill(y, BigInteger.ZERO);
            for (int i = 0; i < n; i++) {
                for (int j = 0; j < m; j++) {
                    y[j] = y[j].add(x[i].multiply(table[i][j]));
                }
            }
            return y;
        }
    }

    static final class Move {
        int what, v;
        Arrow arrow;
    }

    static final class All {
        Group[] groups = new Group[6];
        Arrow[] maps = new Arrow[8];
        List<Move> moves = new ArrayList<>();

        All copy() {
            All a = new All();
            for (int g = 0; g < 6; g++) {
                a.groups[g] = groups[g].copy();
            }
            for (int f = 0; f < 8; f++) {
                a.maps[f] = maps[f] == null ? null : maps[f].copy();
            }
            a.moves = new ArrayList<>(moves);
            return a;
        }
    }

    static final class Model {
        static final BigInteger LIMIT = big(1000000000L);
        All all = new All();
        List<All> past = new ArrayList<>();
        All kept = null;
        StringBuilder tape = new StringBuilder();
        int[] sorts = {-1, -1, -1, -1};
        long[][] sheets = new long[4][];
        Object[] shelves = new Object[4];
        int[] shelfGroups = new int[4];

        Model() {
            for (int g = 0; g < 6; g++) {
                all.groups[g] = new Group();
            }
        }

        static void need(boolean holds, int code) {
            if (!holds) {
                throw new Refusal(code);
            }
        }

        Group group(int g) {
            need(g >= 0 && g <= 5, -1);
            return all.groups[g];
        }

        Arrow map(int f) {
            need(f >= 0 && f <= 7 && all.maps[f] != null, -1);
            return all.maps[f];
        }

        void change() {
            past.add(all.copy());
            if (past.size() > 20) {
                past.remove(0);
            }
        }

        static void within(long range, long... numbers) {
            for (long v : numbers) {
                need(v >= -range && v <= range, -1);
            }
        }

        static BigInteger[] element(int n, long... numbers) {
            BigInteger[] row = new BigInteger[n];
            for (int j = 0; j < n; j++) {
                row[j] = big(numbers[j]);
            }
            return row;
        }

        static List<BigInteger> own(List<BigInteger> rings) {
            List<BigInteger> own = new ArrayList<>();
            for (BigInteger r : rings) {
                if (!r.equals(BigInteger.ONE)) {
                    own.add(r);
                }
            }
            return own;
        }

        static long ownAt(List<BigInteger> rings, int k) {
            List<BigInteger> own = own(rings);
            if (k == -1) {
                return own.size();
            }
            need(k < own.size(), -3);
            return own.get(k).longValueExact();
        }

        boolean isWell(Arrow a) {
            Echelon nothing = all.groups[a.to].nothing();
            for (BigInteger[] r : all.groups[a.from].rows()) {
                if (!nothing.has(a.image(r))) {
                    return false;
                }
            }
            return true;
        }

        /** Table rows, then relations of the group that it goes to. */
        Echelon reach(Arrow a) {
            List<BigInteger[]> rows = new ArrayList<>(Arrays.asList(a.table));
            rows.addAll(all.groups[a.to].rows());
            return new Echelon(rows, a.m);
        }

        Echelon kernel(Arrow a) {
            Echelon reach = reach(a);
            List<BigInteger[]> rows = new ArrayList<>();
            for (int r = reach.rank; r < reach.rows.size(); r++) {
                rows.add(Arrays.copyOf(reach.done.get(r), a.n));
            }
            return new Echelon(rows, a.n);
        }

        BigInteger[] whence(Arrow a, BigInteger[] y) {
            BigInteger[] left = y.clone();
            BigInteger[] times = reach(a).normalize(left);
            if (!isZero(left)) {
                return null;
            }
            BigInteger[] x = Arrays.copyOf(times, a.n);
            kernel(a).normalize(x);
            return x;
        }

        List<BigInteger> partRings(Arrow a, int what) {
            if (what == 2) {
                return smith(reach(a).rows, a.m);
            }
            Echelon kernel = kernel(a);
            if (what == 1) {
                return smith(kernel.rows, a.n);
            }
            List<BigInteger[]> inside = new ArrayList<>();
            List<BigInteger[]> basis = new ArrayList<>(kernel.rows.subList(0, kernel.rank));
            Echelon free = new Echelon(basis, a.n);
            for (BigInteger[] r : all.groups[a.from].rows()) {
                inside.add(free.normalize(r.clone()));
            }
            return smith(inside, basis.size());
        }

        boolean isExact(Arrow f, Arrow e) {
            Echelon reach = reach(f);
            Echelon kernel = kernel(e);
            return reach.hasAll(kernel) && kernel.hasAll(reach);
        }

        boolean isOneToOne(Arrow a) {
            return all.groups[a.from].nothing().hasAll(kernel(a));
        }

        boolean isOnto(Arrow a) {
            Echelon reach = reach(a);
            for (int j = 0; j < a.m; j++) {
                if (!reach.step(j).equals(BigInteger.ONE)) {
                    return false;
                }
            }
            return true;
        }

        // ---- the calls

        long call(Call c) {
            try {
                return answer(c);
            } catch (Refusal r) {
                return c.isLong() ? r.code - 4000000000000000000L : r.code;
            }
        }

        private long answer(Call c) {
            int[] a = c.args;
            switch (c.name) {
                case "group": {
                    int before = group(a[0]).n;
                    need(a[1] >= 0 && a[1] <= 3, -1);
                    change();
                    Group g = new Group();
                    g.n = a[1];
                    all.groups[a[0]] = g;
                    for (int f = 0; f < 8; f++) {
                        if (all.maps[f] != null && (all.maps[f].from == a[0] || all.maps[f].to == a[0])) {
                            all.maps[f] = null;
                        }
                    }
                    return before;
                }
                case "relation": {
                    Group g = group(a[0]);
                    within(9, a[1], a[2], a[3]);
                    need(g.relations.size() < 4, -2);
                    change();
                    g.relations.add(new int[] {a[1], a[2], a[3]});
                    return g.relations.size();
                }
                case "groupIs":
                    return groupIs(group(a[0]), a[1]);
                case "ring":
                    need(a[1] >= 0 && a[1] < group(a[0]).n, -1);
                    return group(a[0]).rings().get(a[1]).longValueExact();
                case "step":
                    need(a[1] >= 0 && a[1] < group(a[0]).n, -1);
                    return group(a[0]).nothing().step(a[1]).longValueExact();
                case "normal": {
                    Group g = group(a[0]);
                    within(999, a[1], a[2], a[3]);
                    need(a[4] >= 0 && a[4] < g.n, -1);
                    BigInteger[] row = element(g.n, a[1], a[2], a[3]);
                    g.nothing().normalize(row);
                    return row[a[4]].longValueExact();
                }
                case "order": {
                    Group g = group(a[0]);
                    within(999, a[1], a[2], a[3]);
                    return order(g, element(g.n, a[1], a[2], a[3]));
                }
                case "same":
                    return own(group(a[0]).rings()).equals(own(group(a[1]).rings())) ? 1 : 0;
                case "ofTwo":
                    return ofTwo(a[0], group(a[1]), group(a[2]), a[3]);
                case "span":
                    return span(a);
                case "map":
                    need(a[0] >= 0 && a[0] <= 7, -1);
                    group(a[1]);
                    group(a[2]);
                    change();
                    all.maps[a[0]] = new Arrow(a[1], a[2], group(a[1]).n, group(a[2]).n);
                    return 1;
                case "entry": {
                    Arrow m = map(a[0]);
                    need(a[1] >= 0 && a[1] < m.n && a[2] >= 0 && a[2] < m.m, -1);
                    within(9, a[3]);
                    change();
                    long before = m.table[a[1]][a[2]].longValueExact();
                    m.table[a[1]][a[2]] = big(a[3]);
                    return 1000 + before;
                }
                case "at": {
                    Arrow m = map(a[0]);
                    need(a[1] >= 0 && a[1] < m.n && a[2] >= 0 && a[2] < m.m, -1);
                    return 1000 + m.table[a[1]][a[2]].longValueExact();
                }
                default:
                    return answerOfMaps(c);
            }
        }

        private long answerOfMaps(Call c) {
            int[] a = c.args;
            switch (c.name) {
                case "mapIs": {
                    Arrow m = map(a[0]);
                    need(a[1] >= 0 && a[1] <= 4, -1);
                    if (a[1] < 2) {
                        return a[1] == 0 ? m.from : m.to;
                    }
                    if (a[1] == 2) {
                        return isWell(m) ? 1 : 0;
                    }
                    need(isWell(m), -4);
                    wellMaps++;
                    return (a[1] == 3 ? isOneToOne(m) : isOnto(m)) ? 1 : 0;
                }
                case "image": {
                    Arrow m = map(a[0]);
                    within(999, a[1], a[2], a[3]);
                    need(a[4] >= 0 && a[4] < m.m, -1);
                    need(isWell(m), -4);
                    BigInteger[] y = m.image(element(m.n, a[1], a[2], a[3]));
                    all.groups[m.to].nothing().normalize(y);
                    return y[a[4]].longValueExact();
                }
                case "part": {
                    Arrow m = map(a[0]);
                    need(a[1] >= 0 && a[1] <= 2 && a[2] >= -1, -1);
                    need(isWell(m), -4);
                    return ownAt(partRings(m, a[1]), a[2]);
                }
                case "whence": {
                    Arrow m = map(a[0]);
                    within(999, a[1], a[2], a[3]);
                    need(a[4] >= 0 && a[4] < m.n, -1);
                    need(isWell(m), -4);
                    BigInteger[] x = whence(m, element(m.m, a[1], a[2], a[3]));
                    need(x != null, -3);
                    whences++;
                    return x[a[4]].longValueExact();
                }
                case "exact": {
                    Arrow f = map(a[0]);
                    Arrow e = map(a[1]);
                    need(isWell(f) && isWell(e) && f.to == e.from, -4);
                    return isExact(f, e) ? 1 : 0;
                }
                case "feed":
                    need(a[0] >= 1 && a[0] <= 8, -1);
                    need(tape.length() + a[0] <= 100, -2);
                    for (int i = 0; i < a[0]; i++) {
                        tape.append((char) (c.value >> (8 * i) & 255));
                    }
                    return tape.length();
                case "text": {
                    need(a[0] >= 0 && a[0] <= 7, -1);
                    String text = tape.toString();
                    tape.setLength(0);
                    Arrow told = new Texts(this, text).told();
                    change();
                    all.maps[a[0]] = told;
                    toldMaps++;
                    return 1;
                }
                case "diagram":
                    return isRight(readDiagram(a[0], a[1])) ? 1 : 0;
                case "connected":
                    return connected(a);
                default:
                    return answerOfMoves(c);
            }
        }

        private long answerOfMoves(Call c) {
            int[] a = c.args;
            switch (c.name) {
                case "move": {
                    need(a[0] >= 0 && a[0] <= 3, -1);
                    need(a[0] != 0 || a[1] >= 0 && a[1] <= 2, -1);
                    need(a[0] != 1 || a[1] >= -9 && a[1] <= 9, -1);
                    Move m = new Move();
                    m.what = a[0];
                    m.v = a[1];
                    m.arrow = a[0] == 2 ? map(a[1]).copy() : null;
                    need(all.moves.size() < 12, -2);
                    change();
                    all.moves.add(m);
                    return all.moves.size();
                }
                case "stop":
                    need(a[0] >= 0 && a[0] <= 3, -1);
                    change();
                    all.moves.removeIf(m -> m.what == a[0]);
                    return all.moves.size();
                case "run":
                    return run(a);
                case "undo":
                    need(!past.isEmpty(), -3);
                    all = past.remove(past.size() - 1);
                    return past.size();
                case "many":
                    return many(a[0]);
                case "keep":
                    kept = all.copy();
                    return 1;
                case "again":
                    need(kept != null, -3);
                    all = kept.copy();
                    past.clear();
                    return many(2);
                default:
                    return answerOfHost(c);
            }
        }

        private long answerOfHost(Call c) {
            int[] a = c.args;
            switch (c.name) {
                case "sheet":
                    need(a[0] >= 0 && a[0] <= 3 && a[1] >= -1 && a[1] <= 2, -1);
                    if (a[1] == -1) {
                        sorts[a[0]] = -1;
                        sheets[a[0]] = null;
                        return 1;
                    }
                    need(a[2] <= 40, -1);
                    need(a[2] >= 0, -14);
                    sorts[a[0]] = a[1];
                    sheets[a[0]] = new long[a[2]];
                    return 1;
                case "put": {
                    need(a[0] >= 0 && a[0] <= 3, -1);
                    need(sheets[a[0]] != null, -11);
                    need(a[1] >= 0 && a[1] < sheets[a[0]].length, -12);
                    long v = sorts[a[0]] == 0 ? (byte) c.value : sorts[a[0]] == 1 ? (int) c.value : c.value;
                    sheets[a[0]][a[1]] = v;
                    return 1;
                }
                case "item":
                    need(a[0] >= 0 && a[0] <= 3 && a[1] >= 0 && a[1] <= 2, -1);
                    look(a[0], a[1], a[2], 1);
                    return (int) sheets[a[0]][a[2]];
                case "lay": {
                    need(a[0] >= 0 && a[0] <= 3, -1);
                    Group g = group(a[1]);
                    within(999, a[2], a[3], a[4]);
                    BigInteger[] x = {BigInteger.ZERO, BigInteger.ZERO, BigInteger.ZERO};
                    for (int j = 0; j < g.n; j++) {
                        x[j] = big(a[2 + j]);
                    }
                    shelves[a[0]] = x;
                    shelfGroups[a[0]] = a[1];
                    return 1;
                }
                case "hold":
                    need(a[0] >= 0 && a[0] <= 3 && a[1] >= -1 && a[1] <= 3, -1);
                    shelves[a[0]] = a[1] < 0 || sheets[a[1]] == null ? null
                        : new int[] {sorts[a[1]], sheets[a[1]].length};
                    return 1;
                case "add": {
                    need(a[0] >= 0 && a[0] <= 3 && a[1] >= 0 && a[1] <= 3, -1);
                    need(shelves[a[0]] != null && shelves[a[1]] != null, -11);
                    BigInteger[] x = elementOn(a[0]).clone();
                    BigInteger[] y = elementOn(a[1]);
                    need(shelfGroups[a[0]] == shelfGroups[a[1]], -13);
                    for (int j = 0; j < 3; j++) {
                        x[j] = x[j].add(y[j]);
                    }
                    return layAgain(a[0], x);
                }
                case "rest": {
                    need(a[0] >= 0 && a[0] <= 3, -1);
                    need(shelves[a[0]] != null, -11);
                    BigInteger[] x = elementOn(a[0]).clone();
                    Group g = all.groups[shelfGroups[a[0]]];
                    BigInteger[] y = Arrays.copyOf(x, g.n);
                    g.nothing().normalize(y);
                    System.arraycopy(y, 0, x, 0, g.n);
                    return layAgain(a[0], x);
                }
                case "lies":
                    need(a[0] >= 0 && a[0] <= 3 && a[1] >= 0 && a[1] <= 3, -1);
                    need(shelves[a[0]] != null, -11);
                    return a[1] == 3 ? elementOn(a[0]).length - 3 + shelfGroups[a[0]]
                        : elementOn(a[0])[a[1]].longValueExact();
                case "taken":
                    need(a[0] >= 0 && a[0] <= 3, -1);
                    need(a[1] >= 0 && a[1] <= 5 || a[1] >= 10 && a[1] <= 12, -1);
                    need(shelves[a[0]] != null, -11);
                    if (a[1] <= 5) {
                        elementOn(a[0]);
                        need(shelfGroups[a[0]] == a[1], -13);
                        return 1;
                    }
                    need(shelves[a[0]] instanceof int[], -13);
                    need(((int[]) shelves[a[0]])[0] == a[1] - 10, -13);
                    return ((int[]) shelves[a[0]])[1];
                default:
                    throw new IllegalStateException(c.name);
            }
        }

        BigInteger[] elementOn(int shelf) {
            need(shelves[shelf] instanceof BigInteger[], -13);
            return (BigInteger[]) shelves[shelf];
        }

        long layAgain(int shelf, BigInteger[] x) {
            for (BigInteger v : x) {
                need(v.abs().compareTo(LIMIT) <= 0, -16);
            }
            shelves[shelf] = x;
            return 1;
        }

        void look(int sheet, int sort, int i, int n) {
            need(sheets[sheet] == null || sorts[sheet] == sort, -13);
            need(sheets[sheet] != null, -11);
            for (long place = i; place < (long) i + n; place++) {
                need(place >= 0 && place < sheets[sheet].length, -12);
            }
        }

        long groupIs(Group g, int what) {
            need(what >= 0 && what <= 3, -1);
            if (what == 0) {
                return g.n;
            }
            if (what == 1) {
                return g.relations.size();
            }
            if (what == 2) {
                return own(g.rings()).size();
            }
            BigInteger all = BigInteger.ONE;
            for (BigInteger r : g.rings()) {
                all = all.multiply(r);
            }
            return all.longValueExact();
        }

        long order(Group g, BigInteger[] x) {
            Echelon nothing = g.nothing();
            BigInteger[] sum = x.clone();
            nothing.normalize(sum);
            for (int times = 1; times <= 4000; times++) {
                if (isZero(sum)) {
                    return times;
                }
                Echelon.less(sum, x, BigInteger.ONE.negate());
                nothing.normalize(sum);
            }
            return 0;
        }

        long ofTwo(int what, Group g, Group h, int k) {
            need(what >= 0 && what <= 4 && k >= -1, -1);
            List<BigInteger> numbers = new ArrayList<>();
            List<BigInteger> first = g.rings();
            List<BigInteger> second = h.rings();
            if (what == 4) {
                numbers.addAll(first);
                numbers.addAll(second);
            } else {
                for (BigInteger r : first) {
                    for (BigInteger s : second) {
                        numbers.add(pair(what, r, s));
                    }
                }
            }
            List<BigInteger[]> rows = new ArrayList<>();
            for (int i = 0; i < numbers.size(); i++) {
                BigInteger[] row = new BigInteger[numbers.size()];
                Arrays.fill(row, BigInteger.ZERO);
                row[i] = numbers.get(i);
                rows.add(row);
            }
            return ownAt(smith(rows, numbers.size()), k);
        }

        static BigInteger pair(int what, BigInteger r, BigInteger s) {
            boolean r0 = r.signum() == 0;
            boolean s0 = s.signum() == 0;
            BigInteger one = BigInteger.ONE;
            if (what == 0) {
                return r0 ? s : s0 ? one : r.gcd(s);
            }
            if (what == 1) {
                return s0 ? r : r0 ? s : r.gcd(s);
            }
            if (what == 2) {
                return r0 || s0 ? one : r.gcd(s);
            }
            return r0 ? one : s0 ? r : r.gcd(s);
        }

        long span(int[] a) {
            Group g = group(a[0]);
            need(a[1] >= 0 && a[1] <= 3 && a[3] >= 0 && a[3] <= 9, -1);
            look(a[1], 1, a[2], 3 * a[3]);
            List<BigInteger[]> elements = new ArrayList<>();
            for (int e = 0; e < a[3]; e++) {
                long[] s = sheets[a[1]];
                int p = a[2] + 3 * e;
                within(99, s[p], s[p + 1], s[p + 2]);
                elements.add(element(g.n, s[p], s[p + 1], s[p + 2]));
            }
            // as what a map from free generators reaches
            Arrow f = new Arrow(a[0], a[0], a[3], g.n);
            f.table = elements.toArray(new BigInteger[0][]);
            BigInteger size = BigInteger.ONE;
            for (BigInteger r : smith(kernel(f).rows, a[3])) {
                size = size.multiply(r);
            }
            return size.longValueExact();
        }

        Arrow[] readDiagram(int sheet, int i) {
            need(sheet >= 0 && sheet <= 3, -1);
            look(sheet, 0, i, 7);
            Arrow[] d = new Arrow[7];
            for (int j = 0; j < 7; j++) {
                long f = sheets[sheet][i + j];
                need(f >= 0 && f <= 7 && all.maps[(int) f] != null, -3);
                d[j] = all.maps[(int) f];
            }
            int a = d[0].from, b = d[0].to, c = d[1].to, a2 = d[2].from, b2 = d[2].to, c2 = d[3].to;
            int[] ends = {a, b, b, c, a2, b2, b2, c2, a, a2, b, b2, c, c2};
            for (int j = 0; j < 7; j++) {
                need(d[j].from == ends[2 * j] && d[j].to == ends[2 * j + 1], -3);
            }
            return d;
        }

        boolean isRight(Arrow[] d) {
            for (Arrow a : d) {
                if (!isWell(a)) {
                    return false;
                }
            }
            boolean right = isExact(d[0], d[1]) && isExact(d[2], d[3]) && isOnto(d[1]) && isOneToOne(d[2])
                && agree(d[0], d[5], d[4], d[2]) && agree(d[5], d[3], d[1], d[6]);
            rightDiagrams += right ? 1 : 0;
            return right;
        }

        boolean agree(Arrow f, Arrow g, Arrow h, Arrow k) {
            Echelon nothing = all.groups[g.to].nothing();
            for (int i = 0; i < f.n; i++) {
                BigInteger[] one = g.image(f.table[i]);
                Echelon.less(one, k.image(h.table[i]), BigInteger.ONE);
                if (!nothing.has(one)) {
                    return false;
                }
            }
            return true;
        }

        long connected(int[] a) {
            Arrow[] d = readDiagram(a[0], a[1]);
            need(isRight(d), -4);
            within(999, a[2], a[3], a[4]);
            need(a[5] >= 0 && a[5] < d[2].n, -1);
            BigInteger[] c = element(d[6].n, a[2], a[3], a[4]);
            need(all.groups[d[6].to].nothing().has(d[6].image(c)), -3);
            BigInteger[] x = whence(d[2], d[5].image(whence(d[1], c)));
            reach(d[4]).normalize(x);
            connections++;
            return x[a[5]].longValueExact();
        }

        long run(int[] a) {
            Group g = group(a[0]);
            within(999, a[1], a[2], a[3]);
            need(a[4] >= 0 && a[4] <= 3, -1);
            BigInteger[] x = element(g.n, a[1], a[2], a[3]);
            int where = a[0];
            for (Move m : all.moves) {
                Group now = all.groups[where];
                if (m.what == 0 && m.v < now.n) {
                    x[m.v] = x[m.v].add(BigInteger.ONE);
                } else if (m.what == 1) {
                    for (int j = 0; j < now.n; j++) {
                        x[j] = x[j].multiply(big(m.v));
                    }
                } else if (m.what == 2) {
                    need(m.arrow.from == where && m.arrow.n == now.n
                        && m.arrow.m == all.groups[m.arrow.to].n, -4);
                    x = m.arrow.image(x);
                    where = m.arrow.to;
                } else if (m.what == 3) {
                    now.nothing().normalize(x);
                }
                for (BigInteger v : x) {
                    need(v.abs().compareTo(LIMIT) <= 0, -16);
                }
            }
            runs += all.moves.isEmpty() ? 0 : 1;
            return a[4] == 3 ? where : a[4] < x.length ? x[a[4]].longValueExact() : 0;
        }

        long many(int what) {
            need(what >= 0 && what <= 6, -1);
            long sum = 0;
            for (int g = 0; g < 6 && what < 2; g++) {
                sum += what == 0 ? all.groups[g].n : all.groups[g].relations.size();
            }
            for (int f = 0; f < 8 && (what == 2 || what == 3); f++) {
                if (all.maps[f] != null) {
                    sum += what == 2 ? 1 : isWell(all.maps[f]) ? 1 << f : 0;
                }
            }
            return what < 4 ? sum : what == 4 ? all.moves.size() : what == 5 ? past.size() : tape.length();
        }
    }

    /** A text: first read for its fault by what may stand where, then made a tree, then three walks over the tree. */
    static final class Texts {
        final Model model;
        final String text;
        int at = 0;

        Texts(Model model, String text) {
            this.model = model;
            this.text = text;
        }

        static final class Node {
            char kind;
            int number;
            Node left, right;

            Node(char kind, int number, Node left, Node right) {
                this.kind = kind;
                this.number = number;
                this.left = left;
                this.right = right;
            }
        }

        Arrow told() {
            int fault = fault();
            Model.need(fault < 0, -100 - fault);
            Node tree = sum();
            names(tree);
            int[] ends = ends(tree);
            BigInteger[][] table = table(tree);
            Arrow a = new Arrow(ends[0], ends[1], model.all.groups[ends[0]].n, model.all.groups[ends[1]].n);
            Echelon nothing = model.all.groups[ends[1]].nothing();
            for (int i = 0; i < a.n; i++) {
                a.table[i] = table[i].clone();
                nothing.normalize(a.table[i]);
                for (BigInteger v : a.table[i]) {
                    Model.need(v.abs().compareTo(big(99)) <= 0, -16);
                }
            }
            return a;
        }

        int fault() {
            // 0: start of a sum; 1: a one must come, a digit may; 2: a digit has come; 3: behind a one
            int state = 0;
            int open = 0;
            for (int i = 0; i < text.length(); i++) {
                char c = text.charAt(i);
                if (c == ' ') {
                    continue;
                }
                if (state < 3) {
                    if (c == '-' && state == 0) {
                        state = 1;
                    } else if (c >= '0' && c <= '9' && state < 2) {
                        state = 2;
                    } else if (c >= 'a' && c <= 'h') {
                        state = 3;
                    } else if (c == '(' && open < 4) {
                        open++;
                        state = 0;
                    } else {
                        return i;
                    }
                } else if (c == '+' || c == '-' || c == '.') {
                    state = 1;
                } else if (c == ')' && open > 0) {
                    open--;
                } else {
                    return i;
                }
            }
            return state == 3 && open == 0 ? -1 : text.length();
        }

        char next() {
            while (at < text.length() && text.charAt(at) == ' ') {
                at++;
            }
            return at < text.length() ? text.charAt(at) : 0;
        }

        Node sum() {
            Node node;
            if (next() == '-') {
                at++;
                node = new Node('n', 0, chain(), null);
            } else {
                node = chain();
            }
            while (next() == '+' || next() == '-') {
                char sign = next();
                at++;
                node = new Node(sign, 0, node, chain());
            }
            return node;
        }

        Node chain() {
            Node node = one();
            while (next() == '.') {
                at++;
                node = new Node('.', 0, node, one());
            }
            return node;
        }

        Node one() {
            char c = next();
            if (c >= '0' && c <= '9') {
                at++;
                return new Node('*', c - '0', one(), null);
            }
            at++;
            if (c == '(') {
                Node node = sum();
                next();
                at++;
                return node;
            }
            return new Node('m', c - 'a', null, null);
        }

        void names(Node node) {
            if (node != null) {
                Model.need(node.kind != 'm' || model.all.maps[node.number] != null, -300);
                names(node.left);
                names(node.right);
            }
        }

        int[] ends(Node node) {
            if (node.kind == 'm') {
                Arrow a = model.all.maps[node.number];
                return new int[] {a.from, a.to};
            }
            int[] left = ends(node.left);
            if (node.right == null) {
                return left;
            }
            int[] right = ends(node.right);
            if (node.kind == '.') {
                Model.need(left[1] == right[0], -301);
                return new int[] {left[0], right[1]};
            }
            Model.need(Arrays.equals(left, right), -301);
            return left;
        }

        BigInteger[][] table(Node node) {
            if (node.kind == 'm') {
                return model.all.maps[node.number].table;
            }
            BigInteger[][] x = table(node.left);
            BigInteger[][] y = node.right == null ? null : table(node.right);
            int[] ends = ends(node);
            int n = model.all.groups[ends[0]].n;
            int m = model.all.groups[ends[1]].n;
            BigInteger[][] z = new BigInteger[n][m];
            for (int i = 0; i < n; i++) {
                for (int j = 0; j < m; j++) {
                    z[i][j] = cell(node, x, y, i, j);
                    Model.need(z[i][j].abs().compareTo(Model.LIMIT) <= 0, -16);
                }
            }
            return z;
        }

        BigInteger cell(Node node, BigInteger[][] x, BigInteger[][] y, int i, int j) {
            switch (node.kind) {
                case 'n':
                    return x[i][j].negate();
                case '*':
                    return x[i][j].multiply(big(node.number));
                case '+':
                    return x[i][j].add(y[i][j]);
                case '-':
                    return x[i][j].subtract(y[i][j]);
                default:
                    BigInteger sum = BigInteger.ZERO;
                    for (int k = 0; k < y.length; k++) {
                        sum = sum.add(x[i][k].multiply(y[k][j]));
                    }
                    return sum;
            }
        }
    }

    // ------------------------------------------------------------------ calls

    static final class Call {
        final String name;
        final int[] args;
        long value;

        Call(String name, int... args) {
            this.name = name;
            this.args = args;
        }

        boolean isLong() {
            return List.of("normal", "image", "whence", "connected", "run", "lies").contains(name);
        }

        @Override
        public String toString() {
            String more = name.equals("feed") || name.equals("put") ? " value " + value : "";
            return name + Arrays.toString(args) + more;
        }

        long ask(GroupsByRelations x) {
            int[] a = args;
            switch (name) {
                case "group": return x.group(a[0], a[1]);
                case "relation": return x.relation(a[0], a[1], a[2], a[3]);
                case "groupIs": return x.groupIs(a[0], a[1]);
                case "ring": return x.ring(a[0], a[1]);
                case "step": return x.step(a[0], a[1]);
                case "normal": return x.normal(a[0], a[1], a[2], a[3], a[4]);
                case "order": return x.order(a[0], a[1], a[2], a[3]);
                case "same": return x.same(a[0], a[1]);
                case "ofTwo": return x.ofTwo(a[0], a[1], a[2], a[3]);
                case "span": return x.span(a[0], a[1], a[2], a[3]);
                case "map": return x.map(a[0], a[1], a[2]);
                case "entry": return x.entry(a[0], a[1], a[2], a[3]);
                case "at": return x.at(a[0], a[1], a[2]);
                case "mapIs": return x.mapIs(a[0], a[1]);
                case "image": return x.image(a[0], a[1], a[2], a[3], a[4]);
                case "part": return x.part(a[0], a[1], a[2]);
                case "whence": return x.whence(a[0], a[1], a[2], a[3], a[4]);
                case "exact": return x.exact(a[0], a[1]);
                case "feed": return x.feed(value, a[0]);
                case "text": return x.text(a[0]);
                case "diagram": return x.diagram(a[0], a[1]);
                case "connected": return x.connected(a[0], a[1], a[2], a[3], a[4], a[5]);
                case "move": return x.move(a[0], a[1]);
                case "stop": return x.stop(a[0]);
                case "run": return x.run(a[0], a[1], a[2], a[3], a[4]);
                case "undo": return x.undo();
                case "sheet": return x.sheet(a[0], a[1], a[2]);
                case "put": return x.put(a[0], a[1], value);
                case "item": return x.item(a[0], a[1], a[2]);
                case "lay": return x.lay(a[0], a[1], a[2], a[3], a[4]);
                case "hold": return x.hold(a[0], a[1]);
                case "add": return x.add(a[0], a[1]);
                case "rest": return x.rest(a[0]);
                case "lies": return x.lies(a[0], a[1]);
                case "taken": return x.taken(a[0], a[1]);
                case "many": return x.many(a[0]);
                case "keep": return x.keep();
                case "again": return x.again();
                default: throw new IllegalStateException(name);
            }
        }
    }

    /** Draws calls that mostly make sense, and some that do not. */
    static final class Driver {
        final Random random;
        final int round;
        final GroupsByRelations x = new GroupsByRelations();
        final Model model = new Model();
        int left = 512;
        boolean goesOn = true;

        Driver(Random random, int round) {
            this.random = random;
            this.round = round;
        }

        void play() {
            int style = round % 6;
            if (style == 0) {
                playDiagram(false);
            } else if (style == 1) {
                playDiagram(true);
            } else if (style == 2) {
                playGreatDiagram();
            } else if (style == 3) {
                playGreatMaps();
            }
            for (int g = 0; g < 6 && style >= 4; g++) {
                drawGroup(g);
            }
            while (left > 0 && goesOn) {
                step(style);
            }
        }

        long ask(Call c) {
            if (left <= 0 || !goesOn) {
                return 0;
            }
            left--;
            calls++;
            long due = model.call(c);
            long got = c.ask(x);
            if (got != due) {
                wrong++;
                goesOn = false;
                System.out.println("round " + round + ", call " + (512 - left) + ": " + c + " answered " + got
                    + ", the second program " + due);
            }
            return due;
        }

        long ask(String name, int... args) {
            return ask(new Call(name, args));
        }

        int draw(int low, int high) {
            return low + random.nextInt(high - low + 1);
        }

        /** Mostly from low to high, now and then just or far outside. */
        int about(int low, int high) {
            int dice = random.nextInt(60);
            if (dice == 0) {
                return low - 1;
            }
            if (dice == 1) {
                return high + 1;
            }
            if (dice == 2) {
                int[] far = {Integer.MIN_VALUE, Integer.MAX_VALUE, -1000, 1000, 100, -100, 1 << 30};
                return far[random.nextInt(far.length)];
            }
            return draw(low, high);
        }

        int small() {
            return random.nextInt(3) == 0 ? draw(-9, 9) : draw(-2, 2);
        }

        int number() {
            int dice = random.nextInt(5);
            return dice == 0 ? about(-999, 999) : dice == 1 ? draw(-999, 999) : draw(-12, 12);
        }

        void drawGroup(int g) {
            ask("group", g, about(0, 3));
            int relations = draw(0, 4);
            for (int r = 0; r < relations; r++) {
                ask("relation", g, small(), small(), small());
            }
        }

        void drawMap(int f) {
            int g = about(0, 5);
            int h = about(0, 5);
            if (ask("map", f, g, h) != 1) {
                return;
            }
            fillMap(f, model.all.groups[g].n, model.all.groups[h].n);
        }

        void fillMap(int f, int n, int m) {
            int style = random.nextInt(4);
            for (int i = 0; i < n; i++) {
                for (int j = 0; j < m; j++) {
                    int v = style == 0 ? (i == j ? 1 : 0) : style == 1 ? (i == j ? draw(-9, 9) : 0)
                        : style == 2 ? small() : draw(0, 1);
                    if (v != 0) {
                        ask("entry", f, i, j, v);
                    }
                }
            }
        }

        void step(int style) {
            int f = about(0, 7);
            int g = about(0, 5);
            switch (random.nextInt(style < 3 ? 44 : 40)) {
                case 0: if (random.nextInt(4) == 0) { drawGroup(draw(0, 5)); } break;
                case 1: if (random.nextInt(3) == 0) { ask("relation", g, about(-9, 9), about(-9, 9), about(-9, 9)); } break;
                case 2: ask("groupIs", g, about(0, 3)); break;
                case 3: ask("ring", g, about(0, 2)); break;
                case 4: ask("step", g, about(0, 2)); break;
                case 5: ask("normal", g, number(), number(), number(), about(0, 2)); break;
                case 6: ask("order", g, number(), number(), number()); break;
                case 7: ask("same", g, about(0, 5)); break;
                case 8: case 9: ask("ofTwo", about(0, 4), g, about(0, 5), about(-1, 3)); break;
                case 10: drawSpan(); break;
                case 11: drawMap(draw(0, 7)); break;
                case 12: if (random.nextInt(3) == 0) { ask("entry", f, about(0, 2), about(0, 2), about(-9, 9)); } break;
                case 13: ask("at", f, about(0, 2), about(0, 2)); break;
                case 14: case 15: ask("mapIs", f, about(0, 4)); break;
                case 16: ask("image", f, number(), number(), number(), about(0, 2)); break;
                case 17: case 18: ask("part", f, about(0, 2), about(-1, 2)); break;
                case 19: case 20: ask("whence", f, number(), number(), number(), about(0, 2)); break;
                case 21: ask("exact", f, about(0, 7)); break;
                case 22: case 23: drawText(); break;
                case 24: ask("move", about(0, 3), draw(0, 3) == 0 ? about(-9, 9) : draw(0, 2)); break;
                case 25: if (random.nextInt(6) == 0) { ask("stop", about(0, 3)); } break;
                case 26: case 27: ask("run", g, number(), number(), number(), about(0, 3)); break;
                case 28: if (random.nextInt(3) == 0) { ask("undo"); } break;
                case 29: drawSheet(); break;
                case 30: drawPut(); break;
                case 31: ask("item", about(0, 3), about(0, 2), about(0, 9)); break;
                case 32: ask("lay", about(0, 3), random.nextBoolean() ? g : 0, number(), number(), number()); break;
                case 33: ask("hold", about(0, 3), about(-1, 3)); break;
                case 34: drawAdd(); break;
                case 35: ask("rest", about(0, 3)); break;
                case 36: ask("lies", about(0, 3), about(0, 3)); break;
                case 37: ask("taken", about(0, 3), random.nextBoolean() ? g : about(10, 12)); break;
                case 38: ask("many", about(0, 6)); break;
                case 39: if (random.nextInt(8) == 0) { ask(random.nextInt(3) == 0 ? "again" : "keep"); } break;
                default: askConnected(); break;
            }
        }

        void drawAdd() {
            int shelf = about(0, 3);
            int other = about(0, 3);
            int times = random.nextInt(6) == 0 ? 25 : 1;
            for (int i = 0; i < times; i++) {
                ask("add", shelf, random.nextBoolean() ? shelf : other);
            }
        }

        void drawSpan() {
            int sheet = draw(0, 3);
            if (random.nextInt(3) == 0) {
                ask("sheet", sheet, 1, draw(0, 27));
                for (int i = 0; i < 12; i++) {
                    Call c = new Call("put", sheet, draw(0, 12));
                    c.value = random.nextInt(30) == 0 ? 100 : random.nextInt(3) == 0 ? draw(-99, 99) : small();
                    ask(c);
                }
            }
            for (int i = 0; i < 3; i++) {
                ask("span", about(0, 5), draw(0, 3), about(0, 6), about(0, 9));
                ask("span", about(0, 5), draw(0, 3), about(-2, 42), draw(0, 3) == 0 ? 1 : 0);
            }
        }

        void drawSheet() {
            ask("sheet", about(0, 3), about(-1, 2), random.nextInt(5) == 0 ? about(0, 40) : draw(0, 12));
        }

        void drawPut() {
            Call c = new Call("put", about(0, 3), about(0, 9));
            c.value = random.nextInt(3) == 0 ? random.nextLong() : draw(-3, 9);
            ask(c);
        }

        void feed(String text) {
            for (int i = 0; i < text.length(); i += 8) {
                int n = Math.min(8, text.length() - i);
                Call c = new Call("feed", n);
                for (int j = 0; j < n; j++) {
                    c.value |= (long) text.charAt(i + j) << (8 * j);
                }
                ask(c);
            }
        }

        void drawText() {
            String text = random.nextInt(3) == 0 ? sumText(0, random.nextInt(3)) : typedText();
            if (random.nextInt(4) == 0) {
                int i = random.nextInt(text.length() + 1);
                String signs = " ()+-.0129abhi\t*";
                char sign = random.nextInt(12) == 0 ? (char) random.nextInt(256) : signs.charAt(random.nextInt(signs.length()));
                text = random.nextBoolean() || i == text.length() ? text.substring(0, i) + sign + text.substring(i)
                    : text.substring(0, i) + text.substring(i + 1);
            }
            feed(text);
            ask("text", about(0, 7));
            if (random.nextInt(4) == 0) {
                ask("many", 6);
            }
        }

        String blank() {
            return random.nextInt(6) == 0 ? " " : "";
        }

        String sumText(int depth, int size) {
            StringBuilder b = new StringBuilder(random.nextInt(4) == 0 ? "-" : "");
            b.append(chainText(depth, size));
            for (int i = 0; i < size && random.nextInt(2) == 0; i++) {
                b.append(blank()).append(random.nextBoolean() ? "+" : "-").append(blank()).append(chainText(depth, size));
            }
            return b.toString();
        }

        String chainText(int depth, int size) {
            StringBuilder b = new StringBuilder(oneText(depth, size));
            for (int i = 0; i < size && random.nextInt(3) == 0; i++) {
                b.append(blank()).append(".").append(blank()).append(oneText(depth, size));
            }
            return b.toString();
        }

        String oneText(int depth, int size) {
            String number = random.nextInt(3) == 0 ? draw(0, 9) + blank() : "";
            if (random.nextInt(3) == 0 && size > 0) {
                return number + "(" + sumText(depth + 1, size - 1) + blank() + ")";
            }
            return number + (char) ('a' + random.nextInt(8));
        }

        /** A text whose maps fit: walks from group to group. */
        String typedText() {
            int from = draw(0, 5);
            int[] to = {-1};
            String chain = typedChain(from, to, 1 + random.nextInt(4), 0);
            if (chain == null) {
                return "" + (char) ('a' + random.nextInt(8));
            }
            StringBuilder b = new StringBuilder(random.nextInt(4) == 0 ? "-" : "").append(chain);
            for (int i = 0; i < 4; i++) {
                int[] end = {-1};
                String more = typedChain(from, end, 1 + random.nextInt(4), 0);
                if (more != null && end[0] == to[0]) {
                    b.append(blank()).append(random.nextBoolean() ? "+" : "-").append(blank()).append(more);
                }
            }
            return b.toString();
        }

        String typedChain(int from, int[] to, int length, int depth) {
            StringBuilder b = new StringBuilder();
            int where = from;
            for (int i = 0; i < length; i++) {
                List<Integer> fit = new ArrayList<>();
                for (int f = 0; f < 8; f++) {
                    if (model.all.maps[f] != null && model.all.maps[f].from == where) {
                        fit.add(f);
                    }
                }
                if (fit.isEmpty()) {
                    break;
                }
                int f = fit.get(random.nextInt(fit.size()));
                String one = "" + (char) ('a' + f);
                if (random.nextInt(4) == 0 && depth < 3) {
                    one = "(" + (random.nextBoolean() ? "-" : "") + one + blank() + (random.nextBoolean() ? "+" : "-") + one + ")";
                }
                one = random.nextInt(3) == 0 ? draw(0, 9) + one : one;
                b.append(i == 0 ? "" : blank() + "." + blank()).append(one);
                where = model.all.maps[f].to;
            }
            to[0] = where;
            return b.length() == 0 ? null : b.toString();
        }

        /** Groups 0, 1, 2 and 3, 4, 5 are two rows, in which the middle one is made of the others; maps 0 to 6 between. */
        void playDiagram(boolean isScrambled) {
            int[][] parts = new int[2][2];
            for (int row = 0; row < 2; row++) {
                parts[row][0] = draw(0, 2);
                parts[row][1] = draw(row == 0 ? 1 : 0, 3 - parts[row][0]);
                drawRow(3 * row, parts[row][0], parts[row][1]);
            }
            drawVerticals(parts);
            ask("sheet", 0, 0, 7 + draw(0, 2));
            for (int j = 0; j < 7; j++) {
                Call c = new Call("put", 0, j);
                c.value = j;
                ask(c);
            }
            for (int tries = 0; tries < 12 && ask("diagram", 0, 0) == 0; tries++) {
                if (random.nextInt(2) == 0 || !isScrambled) {
                    drawVerticals(parts);
                } else {
                    int r = draw(4, 6);
                    int v = model.all.groups[model.all.maps[r].from].n;
                    fillMap(r, v, model.all.groups[model.all.maps[r].to].n);
                }
            }
            for (int i = 0; i < 60; i++) {
                askConnected();
            }
        }

        int sign() {
            return random.nextBoolean() ? 1 : -1;
        }

        /** A map that has an inverse, with numbers as great as a table may have, by way of maps 6 and 7. */
        void drawInvertible(int f, int g, int h) {
            for (int tries = 0; tries < 8; tries++) {
                ask("map", 6, g, g);
                ask("map", 7, g, h);
                for (int i = 0; i < 3; i++) {
                    for (int j = 0; j < 3; j++) {
                        int v = i == j ? sign() : draw(5, tries < 5 ? 9 : 6) * sign();
                        if (i >= j) {
                            ask("entry", 6, i, j, v);
                        }
                        if (i <= j) {
                            ask("entry", 7, i, j, i == j ? 1 : v);
                        }
                    }
                }
                feed("g.h");
                if (ask("text", f) == 1) {
                    return;
                }
            }
        }

        void drawGreat(int f, int g, int h) {
            int n = model.all.groups[g].n;
            int m = model.all.groups[h].n;
            for (int t = 6; t < 8; t++) {
                ask("map", t, g, h);
                for (int i = 0; i < n; i++) {
                    for (int j = 0; j < m; j++) {
                        ask("entry", t, i, j, random.nextInt(3) == 0 ? draw(-9, 9) : draw(7, 9) * sign());
                    }
                }
            }
            feed(random.nextInt(4) == 0 ? "9g" : "9g+2h");
            ask("text", f);
        }

        void playGreatDiagram() {
            int[] sizes = {draw(0, 1), 3, 3, 3, 3, 0};
            for (int g = 0; g < 6; g++) {
                ask("group", g, sizes[g]);
            }
            ask("map", 0, 0, 1);
            drawInvertible(1, 1, 2);
            drawInvertible(2, 3, 4);
            ask("map", 3, 4, 5);
            ask("map", 4, 0, 3);
            drawGreat(5, 1, 4);
            ask("map", 6, 2, 5);
            ask("sheet", 0, 0, 7);
            for (int j = 0; j < 7; j++) {
                Call c = new Call("put", 0, j);
                c.value = j;
                ask(c);
            }
            for (int i = 0; i < 40; i++) {
                ask("connected", 0, 0, draw(-999, 999), draw(-999, 999), 999 * sign(), draw(0, 2));
            }
            for (int i = 0; i < 60; i++) {
                ask("whence", draw(0, 7), draw(-999, 999), 999 * sign(), 999 * sign(), draw(0, 2));
            }
        }

        void playGreatMaps() {
            for (int g = 0; g < 6; g++) {
                ask("group", g, random.nextInt(3) == 0 ? draw(1, 3) : 3);
            }
            for (int f = 0; f < 6; f++) {
                drawGreat(f, draw(0, 5), draw(0, 5));
            }
            for (int g = 0; g < 6; g++) {
                for (int r = draw(0, 2); r > 0; r--) {
                    ask("relation", g, draw(-9, 9), draw(-9, 9), draw(7, 9) * sign());
                }
            }
            for (int i = 0; i < 100; i++) {
                int f = draw(0, 7);
                ask("whence", f, draw(-999, 999), 999 * sign(), draw(-9, 9), draw(0, 2));
                ask("part", f, draw(0, 2), draw(-1, 2));
                ask("mapIs", f, draw(2, 4));
            }
        }

        void drawRow(int base, int a, int c) {
            ask("group", base, a);
            ask("group", base + 1, a + c);
            ask("group", base + 2, c);
            for (int i = 0; i < a && random.nextInt(4) != 0; i++) {
                int[] r = new int[3];
                for (int j = 0; j < a; j++) {
                    r[j] = i == j ? draw(0, 9) : random.nextInt(3) == 0 ? small() : 0;
                }
                ask("relation", base, r[0], r[1], r[2]);
                ask("relation", base + 1, r[0], r[1], r[2]);
            }
            for (int i = 0; i < c && random.nextInt(4) != 0; i++) {
                int[] r = new int[4];
                for (int j = 0; j < c; j++) {
                    r[j] = i == j ? draw(1, 9) : random.nextInt(3) == 0 ? small() : 0;
                }
                ask("relation", base + 2, r[0], r[1], r[2]);
                int[] whole = new int[3];
                for (int j = 0; j < 3; j++) {
                    whole[j] = j < a ? small() : r[j - a];
                }
                ask("relation", base + 1, whole[0], whole[1], whole[2]);
            }
            int f = base == 0 ? 0 : 2;
            ask("map", f, base, base + 1);
            for (int i = 0; i < a; i++) {
                ask("entry", f, i, i, 1);
            }
            ask("map", f + 1, base + 1, base + 2);
            for (int i = 0; i < c; i++) {
                ask("entry", f + 1, a + i, i, 1);
            }
        }

        void drawVerticals(int[][] parts) {
            int a = parts[0][0], c = parts[0][1], a2 = parts[1][0], c2 = parts[1][1];
            ask("map", 4, 0, 3);
            ask("map", 5, 1, 4);
            ask("map", 6, 2, 5);
            int most = random.nextInt(3) == 0 ? 9 : 3;
            for (int i = 0; i < a; i++) {
                for (int j = 0; j < a2; j++) {
                    int v = random.nextInt(2) == 0 ? draw(-most, most) : 0;
                    ask("entry", 4, i, j, v);
                    ask("entry", 5, i, j, v);
                }
            }
            for (int i = 0; i < c; i++) {
                for (int j = 0; j < c2; j++) {
                    int v = random.nextInt(3) == 0 ? draw(-most, most) : 0;
                    ask("entry", 6, i, j, v);
                    ask("entry", 5, a + i, a2 + j, v);
                }
                for (int j = 0; j < a2; j++) {
                    ask("entry", 5, a + i, j, random.nextInt(2) == 0 ? draw(-most, most) : 0);
                }
            }
        }

        void askConnected() {
            boolean isWild = random.nextInt(20) == 0;
            int sheet = isWild ? about(0, 3) : 0;
            int i = isWild ? about(0, 3) : 0;
            ask("connected", sheet, i, number(), number(), random.nextBoolean() ? 0 : number(), about(0, 2));
            if (random.nextInt(6) == 0) {
                ask("diagram", sheet, i);
            }
        }
    }
}
