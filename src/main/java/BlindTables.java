/**
 * An engine for small tables that gives nothing away by where it looks: every row that an operator
 * needs is read from and written to a store, and which places are looked at hangs on the numbers of
 * rows alone.
 */
public final class BlindTables {
    public static final int NONE = -1;
    public static final int ROOM = -2;

    private static final int TABLES = 3;
    private static final int COLUMNS = 3;
    private static final int OPS = 3;
    private static final int TABLE_ROOM = 12;
    private static final int RESULT_ROOM = 24;
    private static final int STEP_ROOM = 3;
    private static final int CHANGE_ROOM = 6;

    private static final int FILTER = 0;
    private static final int PICK = 1;
    private static final int DISTINCT = 2;
    private static final int GROUP = 3;
    private static final int JOIN = 4;

    private final Bag[] tables = new Bag[TABLES];
    private final Step[] steps = new Step[STEP_ROOM];
    private final Bag puts = new Bag(CHANGE_ROOM);
    private final Bag drops = new Bag(CHANGE_ROOM);
    private final Bag result = new Bag(RESULT_ROOM);
    private final Store store = new Store();
    private final Operators operators = new Operators(store);
    private final Joiner joiner = new Joiner(store);
    private int planTable = NONE;
    private int stepCount = 0;

    public BlindTables() {
        for (int t = 0; t < TABLES; t++) {
            tables[t] = new Bag(TABLE_ROOM);
        }
        for (int s = 0; s < STEP_ROOM; s++) {
            steps[s] = new Step();
        }
    }

    public boolean add(int t, int a, int b, int c) {
        return isTable(t) && tables[t].hold(a, b, c);
    }

    public int rows(int t) {
        return isTable(t) ? tables[t].count : NONE;
    }

    public boolean plan(int t) {
        if (!isTable(t)) {
            return false;
        }
        planTable = t;
        stepCount = 0;
        return true;
    }

    public boolean filter(int c, int op, int x) {
        return isColumn(c) && op >= 0 && op < OPS && append(FILTER, c, op, x);
    }

    public boolean pick(int a, int b, int c) {
        return isColumn(a) && isColumn(b) && isColumn(c) && append(PICK, a, b, c);
    }

    public boolean distinct() {
        return append(DISTINCT, 0, 0, 0);
    }

    public boolean group(int g, int a) {
        return isColumn(g) && isColumn(a) && append(GROUP, g, a, 0);
    }

    public boolean join(int t, int x, int y) {
        return isTable(t) && isColumn(x) && isColumn(y) && append(JOIN, t, x, y);
    }

    public int run() {
        if (!isTable(planTable)) {
            return NONE;
        }
        store.startTrace();
        result.become(tables[planTable]);
        for (int s = 0; s < stepCount && s < STEP_ROOM; s++) {
            if (!perform(steps[s])) {
                result.clear();
                return ROOM;
            }
        }
        operators.order(result);
        return result.count;
    }

    public boolean put(int a, int b, int c) {
        return changes() < CHANGE_ROOM && puts.hold(a, b, c);
    }

    public boolean drop(int number) {
        return changes() < CHANGE_ROOM && drops.hold(number, 0, 0);
    }

    public int apply(int t) {
        if (!isTable(t)) {
            return NONE;
        }
        store.startTrace();
        boolean fits = operators.change(tables[t], puts, drops);
        puts.clear();
        drops.clear();
        return fits ? tables[t].count : ROOM;
    }

    public int cell(int r, int c) {
        return isColumn(c) ? result.column(r, c) : 0;
    }

    public int length() {
        return store.noted;
    }

    public int access(int k) {
        return store.notedAt(k);
    }

    public int sum(int t) {
        return isTable(t) ? tables[t].total() : 0;
    }

    private static boolean isTable(int t) {
        return t >= 0 && t < TABLES;
    }

    private static boolean isColumn(int c) {
        return c >= 0 && c < COLUMNS;
    }

    private int changes() {
        return puts.count + drops.count;
    }

    private boolean append(int kind, int x, int y, int z) {
        if (planTable == NONE || stepCount >= STEP_ROOM) {
            return false;
        }
        steps[stepCount].become(kind, x, y, z);
        stepCount++;
        return true;
    }

    /** Makes of the result's rows what the step gives; false when they have no room. */
    private boolean perform(Step step) {
        switch (step.kind) {
            case FILTER:
                operators.keepMatching(result, step.x, step.y, step.z);
                return true;
            case PICK:
                operators.rearrange(result, step.x, step.y, step.z);
                return true;
            case DISTINCT:
                operators.keepDifferent(result);
                return true;
            case GROUP:
                operators.totalUp(result, step.x, step.y);
                return true;
            default: // JOIN, the only one left
                return isTable(step.x) && joiner.match(result, tables[step.x], step.y, step.z);
        }
    }

    /** A step of a plan: its kind, and its numbers in the order in which the face takes them. */
    private static final class Step {
        int kind;
        int x;
        int y;
        int z;

        void become(int newKind, int newX, int newY, int newZ) {
            kind = newKind;
            x = newX;
            y = newY;
            z = newZ;
        }
    }

    /** Rows outside the store: a table, a result, or the changes of a batch. */
    private static final class Bag {
        final int[] first;
        final int[] second;
        final int[] third;
        int count = 0;

        Bag(int room) {
            first = new int[room];
            second = new int[room];
            third = new int[room];
        }

        boolean hold(int a, int b, int c) {
            if (count >= first.length) {
                return false;
            }
            first[count] = a;
            second[count] = b;
            third[count] = c;
            count++;
            return true;
        }

        void clear() {
            count = 0;
        }

        void become(Bag other) {
            clear();
            for (int r = 0; r < other.count; r++) {
                hold(other.first[r], other.second[r], other.third[r]);
            }
        }

        int column(int r, int c) {
            if (r < 0 || r >= count) {
                return 0;
            }
            return c == 0 ? first[r] : c == 1 ? second[r] : third[r];
        }

        int total() {
            int total = 0;
            for (int r = 0; r < count; r++) {
                total += 31 * (31 * first[r] + second[r]) + third[r];
            }
            return total;
        }
    }

    /** A row in the store: its columns, and the marks that travel with it through the networks. */
    private static final class Row {
        int a;
        int b;
        int c;
        int key;
        int side;
        int lefts;
        int rights;
        int sortFirst;
        int sortSecond;
        int sortThird;
        boolean live;
        int wayBack;
        int wayForth;

        void setColumns(int newA, int newB, int newC) {
            a = newA;
            b = newB;
            c = newC;
        }

        int column(int number) {
            return number == 0 ? a : number == 1 ? b : c;
        }

        boolean sameColumns(Row other) {
            return a == other.a && b == other.b && c == other.c;
        }

        void sortBy(int newFirst, int newSecond, int newThird) {
            sortFirst = newFirst;
            sortSecond = newSecond;
            sortThird = newThird;
        }

        boolean isBehind(Row other) {
            if (sortFirst != other.sortFirst) {
                return sortFirst > other.sortFirst;
            }
            if (sortSecond != other.sortSecond) {
                return sortSecond > other.sortSecond;
            }
            return sortThird > other.sortThird;
        }

        /** Marks the row, which lies at a place, to be squeezed to its rank among the live ones. */
        void keep(int place, int rank) {
            live = true;
            wayBack = place - rank;
            wayForth = 0;
        }

        void discard() {
            live = false;
            wayBack = 0;
            wayForth = 0;
        }

        /** How many rows of the other side a joined row meets. */
        int partners() {
            return side == Joiner.LEFT ? rights : lefts;
        }

        void become(Row other) {
            setColumns(other.a, other.b, other.c);
            key = other.key;
            side = other.side;
            lefts = other.lefts;
            rights = other.rights;
            sortBy(other.sortFirst, other.sortSecond, other.sortThird);
            live = other.live;
            wayBack = other.wayBack;
            wayForth = other.wayForth;
        }
    }

    /**
     * The store, the trace of its accesses, and the networks over it. Each place has a row object of
     * its own; who reads one writes it back to some place, so the objects only change places.
     */
    private static final class Store {
        /** Where the second half of the places begins, which JOIN alone uses. */
        static final int FAR = 40;
        private static final int PLACES = FAR + RESULT_ROOM + TABLE_ROOM;
        /** The length of the longest trace, that of three joins with the most rows each. */
        private static final int TRACE_ROOM = 14688;

        private final Row[] places = new Row[PLACES];
        private final int[] trace = new int[TRACE_ROOM];
        int noted = 0;

        Store() {
            for (int p = 0; p < PLACES; p++) {
                places[p] = new Row();
            }
        }

        void startTrace() {
            noted = 0;
        }

        int notedAt(int k) {
            return k >= 0 && k < noted ? trace[k] : NONE;
        }

        Row read(int place) {
            note(2 * place);
            return at(place);
        }

        void write(int place, Row row) {
            note(2 * place + 1);
            if (place >= 0 && place < PLACES) {
                places[place] = row;
            }
        }

        /** The row at a place, without an access; no step asks for a place that is not there. */
        private Row at(int place) {
            return places[place >= 0 && place < PLACES ? place : 0];
        }

        /** R from, W to: the row at the place to becomes like the other, for no row lies twice. */
        void copy(int from, int to) {
            Row row = read(from);
            Row twin = at(to);
            twin.become(row);
            write(to, twin);
        }

        private void note(int code) {
            if (noted < TRACE_ROOM) {
                trace[noted] = code;
                noted++;
            }
        }

        /** Lays a step's rows at 0 and on, to be sorted by their columns; answers their number. */
        int lay(Bag bag) {
            for (int r = 0; r < bag.count; r++) {
                Row row = at(r);
                row.setColumns(bag.first[r], bag.second[r], bag.third[r]);
                row.sortBy(row.a, row.b, row.c);
            }
            return bag.count;
        }

        /** Lays rows at a place and on, to be sorted by a column, then side; answers the next place. */
        int layByKey(Bag bag, int from, int column, int side) {
            for (int r = 0; r < bag.count; r++) {
                Row row = at(from + r);
                row.setColumns(bag.first[r], bag.second[r], bag.third[r]);
                row.key = row.column(column);
                row.side = side;
                row.sortBy(row.key, side, 0);
            }
            return from + bag.count;
        }

        /** What an earlier step has left must not pass for a row where SPREAD goes past the rows. */
        void clear() {
            for (int p = 0; p < PLACES; p++) {
                places[p].discard();
            }
        }

        void takeAway(Bag bag, int number) {
            bag.clear();
            for (int p = 0; p < number; p++) {
                Row row = at(p);
                bag.hold(row.a, row.b, row.c);
            }
        }

        /** The greatest power of two below n, or 1: the most that a network exchanges across. */
        private static int widest(int n) {
            int d = 1;
            while (d < PLACES && 2 * d < n) {
                d *= 2;
            }
            return d;
        }

        void sort(int base, int n) {
            if (n < 2) {
                return;
            }
            int widest = widest(n);
            for (int p = widest; p > 0; p /= 2) {
                sortPass(base, n, p, 0, p);
                for (int q = widest; q > p; q /= 2) {
                    sortPass(base, n, p, p, q - p);
                }
            }
        }

        private void sortPass(int base, int n, int p, int r, int d) {
            for (int i = 0; i < n - d; i++) {
                if ((i & p) == r) {
                    int near = base + i;
                    Row front = read(near);
                    Row back = read(near + d);
                    boolean swap = front.isBehind(back);
                    write(near, swap ? back : front);
                    write(near + d, swap ? front : back);
                }
            }
        }

        /** Brings the live rows, in their order, to the first places. */
        void squeeze(int base, int n) {
            for (int d = 1; d < n && d < PLACES; d *= 2) {
                for (int i = d; i < n; i++) {
                    int far = base + i;
                    Row front = read(far - d);
                    Row back = read(far);
                    boolean swap = (back.wayBack & d) != 0;
                    write(far - d, swap ? back : front);
                    write(far, swap ? front : back);
                }
            }
        }

        /** Brings the live rows, squeezed before, forth to where their copies begin. */
        void spread(int base, int n) {
            for (int d = widest(n); d > 0; d /= 2) {
                for (int i = n - 1; i >= d; i--) {
                    int far = base + i;
                    Row front = read(far - d);
                    Row back = read(far);
                    boolean swap = (front.wayForth & d) != 0;
                    write(far - d, swap ? back : front);
                    write(far, swap ? front : back);
                }
            }
        }
    }

    /** The operators on one lot of rows, the end of a plan, and the batch. */
    private static final class Operators {
        private static final int DROPPED = 0;
        private static final int HELD = 1;
        private static final int BROUGHT = 2;

        private final Store store;

        Operators(Store store) {
            this.store = store;
        }

        void order(Bag bag) {
            int n = store.lay(bag);
            store.sort(0, n);
            store.takeAway(bag, n);
        }

        void keepMatching(Bag bag, int column, int op, int x) {
            int n = store.lay(bag);
            int kept = 0;
            for (int p = 0; p < n; p++) {
                Row row = store.read(p);
                if (matches(row.column(column), op, x)) {
                    row.keep(p, kept);
                    kept++;
                } else {
                    row.discard();
                }
                store.write(p, row);
            }
            store.squeeze(0, n);
            store.takeAway(bag, kept);
        }

        private static boolean matches(int value, int op, int x) {
            return op == 0 ? value < x : op == 1 ? value == x : value > x;
        }

        void rearrange(Bag bag, int a, int b, int c) {
            int n = store.lay(bag);
            for (int p = 0; p < n; p++) {
                Row row = store.read(p);
                row.setColumns(row.column(a), row.column(b), row.column(c));
                store.write(p, row);
            }
            store.takeAway(bag, n);
        }

        void keepDifferent(Bag bag) {
            int n = store.lay(bag);
            store.sort(0, n);
            int kept = keepFirstOfEach(n);
            store.squeeze(0, n);
            store.takeAway(bag, kept);
        }

        private int keepFirstOfEach(int n) {
            int kept = 0;
            Row before = null;
            for (int p = 0; p < n; p++) {
                Row row = store.read(p);
                if (before != null && row.sameColumns(before)) {
                    row.discard();
                } else {
                    row.keep(p, kept);
                    kept++;
                }
                before = row;
                store.write(p, row);
            }
            return kept;
        }

        void totalUp(Bag bag, int groupColumn, int sumColumn) {
            int n = store.layByKey(bag, 0, groupColumn, HELD);
            store.sort(0, n);
            int groups = addUpForth(n, sumColumn);
            keepLastOfEach(n);
            store.squeeze(0, n);
            store.takeAway(bag, groups);
        }

        /** Only the last row of a group has its whole sum; each is marked as if it were that one. */
        private int addUpForth(int n, int sumColumn) {
            int groups = 0;
            int key = 0;
            int sum = 0;
            int number = 0;
            for (int p = 0; p < n; p++) {
                Row row = store.read(p);
                if (p == 0 || row.key != key) {
                    groups++;
                    key = row.key;
                    sum = 0;
                    number = 0;
                }
                sum += row.column(sumColumn);
                number++;
                row.setColumns(key, sum, number);
                row.keep(p, groups - 1);
                store.write(p, row);
            }
            return groups;
        }

        private void keepLastOfEach(int n) {
            int key = 0;
            for (int p = n - 1; p >= 0; p--) {
                Row row = store.read(p);
                if (p < n - 1 && row.key == key) {
                    row.discard();
                }
                key = row.key;
                store.write(p, row);
            }
        }

        /** Runs a batch on a table; false, and the table stays, when its rows have no room. */
        boolean change(Bag table, Bag puts, Bag drops) {
            int held = store.layByKey(table, 0, 0, HELD);
            int brought = store.layByKey(puts, held, 0, BROUGHT);
            int n = store.layByKey(drops, brought, 0, DROPPED);
            store.sort(0, n);
            int kept = keepUndropped(n);
            store.squeeze(0, n);
            if (kept > TABLE_ROOM) {
                return false;
            }
            store.takeAway(table, kept);
            return true;
        }

        /** The sort has brought each number's drops before its rows. */
        private int keepUndropped(int n) {
            int kept = 0;
            boolean anyDropped = false;
            int dropped = 0;
            for (int p = 0; p < n; p++) {
                Row row = store.read(p);
                if (row.side == DROPPED) {
                    anyDropped = true;
                    dropped = row.key;
                }
                boolean hit = anyDropped && row.key == dropped;
                if (row.side == BROUGHT || !hit) {
                    row.keep(p, kept);
                    kept++;
                } else {
                    row.discard();
                }
                store.write(p, row);
            }
            return kept;
        }
    }

    /** The operator JOIN: both sides are spread to the number of pairs, and laid side by side. */
    private static final class Joiner {
        static final int LEFT = 0;
        private static final int RIGHT = 1;

        private final Store store;
        private final Row source = new Row();

        Joiner(Store store) {
            this.store = store;
        }

        /** Makes of the bag's rows their pairs with the table's; false when those have no room. */
        boolean match(Bag bag, Bag table, int x, int y) {
            store.clear();
            int n = store.layByKey(bag, 0, x, LEFT);
            int k = store.layByKey(table, n, y, RIGHT);
            store.sort(0, k);
            countForth(k);
            int pairs = countBack(k);
            store.sort(0, k);
            if (pairs > RESULT_ROOM) {
                return false;
            }
            if (pairs > 0) {
                copyAll(k);
                expand(0, k, pairs, LEFT);
                expand(Store.FAR, k, pairs, RIGHT);
                store.sort(Store.FAR, pairs);
                addPairs(pairs);
            }
            store.takeAway(bag, pairs);
            return true;
        }

        /** Each row gets the numbers of its key's rows on either side, as far as they were seen. */
        private void countForth(int k) {
            int key = 0;
            int lefts = 0;
            int rights = 0;
            for (int p = 0; p < k; p++) {
                Row row = store.read(p);
                if (p == 0 || row.key != key) {
                    key = row.key;
                    lefts = 0;
                    rights = 0;
                }
                if (row.side == LEFT) {
                    lefts++;
                } else {
                    rights++;
                }
                row.lefts = lefts;
                row.rights = rights;
                store.write(p, row);
            }
        }

        /** Each row gets the whole numbers, which its key's last row has; answers how many pairs. */
        private int countBack(int k) {
            int key = 0;
            int lefts = 0;
            int rights = 0;
            int pairs = 0;
            for (int p = k - 1; p >= 0; p--) {
                Row row = store.read(p);
                if (p == k - 1 || row.key != key) {
                    key = row.key;
                    lefts = row.lefts;
                    rights = row.rights;
                    pairs += lefts * rights;
                }
                row.lefts = lefts;
                row.rights = rights;
                row.sortBy(row.side, row.key, 0);
                store.write(p, row);
            }
            return pairs;
        }

        private void copyAll(int k) {
            for (int p = 0; p < k; p++) {
                store.copy(p, p + Store.FAR);
            }
        }

        private void addPairs(int pairs) {
            for (int p = 0; p < pairs; p++) {
                Row left = store.read(p);
                Row right = store.read(p + Store.FAR);
                left.setColumns(left.key, left.b + right.b, left.c + right.c);
                store.write(p, left);
            }
        }

        /** Makes of one side's rows as many copies as each has partners, from the base on. */
        private void expand(int base, int k, int pairs, int side) {
            markStarts(base, k, side);
            store.squeeze(base, k);
            store.spread(base, Math.max(k, pairs));
            fillCopies(base, pairs);
        }

        private void markStarts(int base, int k, int side) {
            int rank = 0;
            int start = 0;
            for (int p = 0; p < k; p++) {
                Row row = store.read(base + p);
                int copies = row.side == side ? row.partners() : 0;
                if (copies > 0) {
                    row.keep(p, rank);
                    row.wayForth = start - rank;
                    rank++;
                    start += copies;
                } else {
                    row.discard();
                }
                store.write(base + p, row);
            }
        }

        /**
         * Sorted by key, then number of the copy, each number's copies are all the rows of the key
         * once: those that one row of the other side, standing there as often, is to meet.
         */
        private void fillCopies(int base, int pairs) {
            int copy = 0;
            for (int p = 0; p < pairs; p++) {
                Row row = store.read(base + p);
                if (row.live) {
                    source.become(row);
                    copy = 0;
                } else {
                    row.become(source);
                    copy++;
                }
                row.sortBy(row.key, copy, 0);
                store.write(base + p, row);
            }
        }
    }
}
