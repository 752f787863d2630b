/** The bounds that the document names for THE TRACE: a test for each of its sentences. */
public final class TraceEdgesTest {
    private static final int ROOM = BlindTables.ROOM;
    private static final Calls RUN = BlindTables::run;
    private static final Calls APPLY = x -> x.apply(0);

    public static void main(String[] args) {
        layingAndTakingIsNoAccess();
        scanOfFewRows();
        scanBackOfFewRows();
        sortBelowTwoRows();
        sortOfFewRows();
        sortOfAllNumbersOfRows();
        squeezeBelowTwoRows();
        squeezeOfFewRows();
        spreadOfFewRows();
        stepsOfAllNumbersOfRows();
        batchesOfAllNumbersOfRows();
        joinWithoutAPair();
        joinOfOnePair();
        joinWithTheGreaterOfKAndM();
        joinOfAllNumbersOfRows();
        joinOfTheMostRowsWithAllNumbersOfPairs();
        sortAtThePlansEnd();
        joinThatEndsWithRoom();
        batchThatEndsWithRoom();
        rowsHaveNoBearing();
        Check.end();
    }

    /** So many rows, falling from n to 1 in column 0 and all the same in column 2, and a plan on them. */
    private static Calls table(int n) {
        return x -> {
            for (int r = 0; r < n; r++) {
                Check.due("add", x.add(0, n - r, r % 3, 7), true);
            }
            x.plan(0);
        };
    }

    private static void traces(String what, String due, Calls... calls) {
        Check.due("trace of " + what, Scene.trace(calls), due);
        Check.due("length of " + what, Scene.after(calls).length(), due.isEmpty() ? 0 : due.split(" ").length);
    }

    private static void traces(String what, DueTrace due, Calls... calls) {
        traces(what, Texts.trace(due), calls);
    }

    /** "before each step its rows lie at 0 .. n - 1 [..], which is no access, nor is what takes the m rows away" */
    private static void layingAndTakingIsNoAccess() {
        traces("a plan of one row, without a step", "", table(1), RUN);
        traces("a filter of one row", "R0 W0", table(1), x -> x.filter(0, 2, 0), RUN);
        traces("three picks of one row", "R0 W0 R0 W0 R0 W0", table(1), x -> {
            x.pick(0, 1, 2);
            x.pick(0, 1, 2);
            x.pick(0, 1, 2);
        }, RUN);
    }

    /** "SCAN n is R 0, W 0, R 1, W 1, .., R (n - 1), W (n - 1)" */
    private static void scanOfFewRows() {
        Calls pick = x -> x.pick(0, 0, 0);
        traces("a pick of no row", "", table(0), pick, RUN);
        traces("a pick of one row", "R0 W0", table(1), pick, RUN);
        traces("a pick of two rows and the end", "R0 W0 R1 W1 R0 R1 W0 W1", table(2), pick, RUN);
        traces("a pick of three rows and the end", "R0 W0 R1 W1 R2 W2 R0 R2 W0 W2 R0 R1 W0 W1 R1 R2 W1 W2",
            table(3), pick, RUN);
    }

    /** "SCAN BACK n the same from n - 1 down to 0" */
    private static void scanBackOfFewRows() {
        Calls group = x -> x.group(0, 1);
        Calls none = x -> x.filter(0, 0, -9);
        traces("a group of no row", "", table(0), group, RUN);
        traces("a group of one row", "R0 W0 R0 W0", table(1), group, RUN);
        traces("a group of two rows", "R0 R1 W0 W1 R0 W0 R1 W1 R1 W1 R0 W0 R0 R1 W0 W1"
            + " R0 W0 R1 W1 R0 R1 W0 W1", table(2), group, none, RUN);
        traces("a group of three rows", "R0 R2 W0 W2 R0 R1 W0 W1 R1 R2 W1 W2"
            + " R0 W0 R1 W1 R2 W2 R2 W2 R1 W1 R0 W0 R0 R1 W0 W1 R1 R2 W1 W2 R0 R2 W0 W2"
            + " R0 W0 R1 W1 R2 W2 R0 R1 W0 W1 R1 R2 W1 W2 R0 R2 W0 W2", table(3), group, none, RUN);
    }

    /** "SORT n: nothing for n below 2" */
    private static void sortBelowTwoRows() {
        traces("a sort of no row", "", table(0), RUN);
        traces("a sort of one row", "", table(1), RUN);
        traces("a distinct of one row", "R0 W0", table(1), x -> x.distinct(), RUN);
        traces("a batch of no change on no row", "", table(0), APPLY);
        traces("a batch of no change on one row", "R0 W0", table(1), APPLY);
        traces("a batch of one change on no row", "R0 W0", table(0), x -> x.put(1, 1, 1), APPLY);
    }

    /** "otherwise, with t the least number with 2^t >= n" */
    private static void sortOfFewRows() {
        traces("a sort of two", "R0 R1 W0 W1", table(2), RUN);
        traces("a sort of three", "R0 R2 W0 W2 R0 R1 W0 W1 R1 R2 W1 W2", table(3), RUN);
        traces("a sort of four", "R0 R2 W0 W2 R1 R3 W1 W3 R0 R1 W0 W1 R2 R3 W2 W3 R1 R2 W1 W2", table(4), RUN);
        traces("a sort of five", "R0 R4 W0 W4 R0 R2 W0 W2 R1 R3 W1 W3 R2 R4 W2 W4"
            + " R0 R1 W0 W1 R2 R3 W2 W3 R1 R4 W1 W4 R1 R2 W1 W2 R3 R4 W3 W4", table(5), RUN);
        int[] exchanges = {0, 0, 1, 3, 5, 9, 12, 16, 19, 26, 31, 37, 41};
        for (int n = 0; n <= 12; n++) {
            Check.due("exchanges of a sort of " + n, Scene.after(table(n), RUN).length(), 4 * exchanges[n]);
        }
    }

    /** The same, and "for i = 0 .. n - d - 1", for every number of rows that a plan's end can have. */
    private static void sortOfAllNumbersOfRows() {
        for (int n = 0; n <= 12; n++) {
            DueTrace due = new DueTrace();
            due.sort(0, n);
            traces("a sort of " + n, due, table(n), RUN);
        }
        for (int m = 13; m <= 24; m++) {
            DueTrace due = traceBefore(m);
            due.sort(0, m);
            Check.due("a join's rows", Scene.after(joinOf(m)).run(), m);
            traces("a sort of " + m + " behind a join", due, joinOf(m), RUN);
        }
    }

    /** A join of two rows of each key, if m is odd one of the last, with one each: m pairs. */
    private static Calls joinOf(int m) {
        return x -> {
            for (int r = 0; r < 12 - m % 2; r++) {
                x.add(0, r / 2, -r, 1);
            }
            for (int r = 0; r < m / 2; r++) {
                x.add(1, r % (6 - m % 2), -r, 2);
            }
            if (m % 2 == 1) {
                x.add(1, 5, 0, 2);
            }
            x.plan(0);
            x.join(1, 0, 0);
        };
    }

    /** "SQUEEZE n: for d = 1, 2, 4, .. below n": none of them is below 0 or 1 */
    private static void squeezeBelowTwoRows() {
        Calls all = x -> x.filter(0, 2, -9);
        traces("a squeeze of no row", "", table(0), all, RUN);
        traces("a squeeze of one row", "R0 W0", table(1), all, RUN);
    }

    /** "for d = 1, 2, 4, .. below n": 1, 2 and 4 are not below themselves */
    private static void squeezeOfFewRows() {
        Calls none = x -> x.filter(0, 0, -9);
        String two = "R0 W0 R1 W1 R0 R1 W0 W1";
        String four = "R0 W0 R1 W1 R2 W2 R3 W3"
            + " R0 R1 W0 W1 R1 R2 W1 W2 R2 R3 W2 W3 R0 R2 W0 W2 R1 R3 W1 W3";
        String five = "R0 W0 R1 W1 R2 W2 R3 W3 R4 W4"
            + " R0 R1 W0 W1 R1 R2 W1 W2 R2 R3 W2 W3 R3 R4 W3 W4"
            + " R0 R2 W0 W2 R1 R3 W1 W3 R2 R4 W2 W4 R0 R4 W0 W4";
        traces("a squeeze of two", two, table(2), none, RUN);
        traces("a squeeze of four", four, table(4), none, RUN);
        traces("a squeeze of five", five, table(5), none, RUN);
        int[] exchanges = {0, 0, 1, 3, 5, 8, 11, 14, 17, 21, 25, 29, 33};
        for (int n = 0; n <= 12; n++) {
            int length = Scene.after(table(n), none, RUN).length();
            Check.due("exchanges of a squeeze of " + n, length, 2 * n + 4 * exchanges[n]);
        }
    }

    /** Tables 0 and 1 have so many rows of one key; their join is planned. */
    private static Calls oneKey(int n, int u) {
        return x -> {
            for (int r = 0; r < n; r++) {
                x.add(0, 5, r, 0);
            }
            for (int r = 0; r < u; r++) {
                x.add(1, 5, 12 * r, 0);
            }
            x.plan(0);
            x.join(1, 0, 0);
        };
    }

    private static String part(String trace, int from, int to) {
        String[] accesses = trace.split(" ");
        StringBuilder text = new StringBuilder();
        for (int k = from; k < to && k < accesses.length; k++) {
            text.append(k == from ? "" : " ").append(accesses[k]);
        }
        return text.toString();
    }

    /** "SPREAD n: for the same d, the greatest first: for i = n - 1, n - 2, .., d" */
    private static void spreadOfFewRows() {
        // two rows: sort 4, scan 4, scan back 4, sort 4, copies 4, scan 4, squeeze 4
        Check.due("a spread of two", part(Scene.trace(oneKey(1, 1), RUN), 28, 32), "R0 R1 W0 W1");
        // three rows: sort 12, scan 6, scan back 6, sort 12, copies 6, scan 6, squeeze 12
        Check.due("a spread of three", part(Scene.trace(oneKey(1, 2), RUN), 60, 72),
            "R0 R2 W0 W2 R1 R2 W1 W2 R0 R1 W0 W1");
        // four rows: sort 20, scan 8, scan back 8, sort 20, copies 8, scan 8, squeeze 20
        Check.due("a spread of four", part(Scene.trace(oneKey(1, 3), RUN), 92, 112),
            "R1 R3 W1 W3 R0 R2 W0 W2 R2 R3 W2 W3 R1 R2 W1 W2 R0 R1 W0 W1");
        // five rows: sort 36, scan 10, scan back 10, sort 36, copies 10, scan 10, squeeze 32
        Check.due("a spread of five", part(Scene.trace(oneKey(1, 4), RUN), 144, 176),
            "R0 R4 W0 W4 R2 R4 W2 W4 R1 R3 W1 W3 R0 R2 W0 W2"
            + " R3 R4 W3 W4 R2 R3 W2 W3 R1 R2 W1 W2 R0 R1 W0 W1");
    }

    /** "FILTER: SCAN n, SQUEEZE n. PICK: SCAN n. DISTINCT: [..] GROUP: [..]", of no row up to 24 */
    private static void stepsOfAllNumbersOfRows() {
        for (int n = 0; n <= 24; n++) {
            Calls rows = n <= 12 ? table(n) : joinOf(n);
            DueTrace filter = traceBefore(n);
            filter.filter(n);
            traces("a filter that keeps none of " + n, filter, rows, x -> x.filter(0, 0, -9), RUN);
            filter.sort(0, n);
            traces("a filter that keeps all of " + n, filter, rows, x -> x.filter(0, 2, -9), RUN);
            DueTrace pick = traceBefore(n);
            pick.pick(n);
            pick.sort(0, n);
            traces("a pick of " + n, pick, rows, x -> x.pick(2, 1, 0), RUN);
            DueTrace distinct = traceBefore(n);
            distinct.distinct(n);
            distinct.sort(0, n);
            traces("a distinct of " + n + " different rows", distinct, rows, x -> x.distinct(), RUN);
            DueTrace equal = traceBefore(n);
            equal.pick(n);
            equal.distinct(n);
            traces("a distinct of " + n + " equal rows", equal, rows, x -> x.pick(2, 2, 2), x -> x.distinct(), RUN);
            DueTrace group = traceBefore(n);
            group.group(n);
            traces("a group of " + n + " rows of one value", group, rows, x -> x.group(2, 0), RUN);
        }
    }

    /** What brings more rows than a table has is a join, which leaves its own trace. */
    private static DueTrace traceBefore(int n) {
        DueTrace due = new DueTrace();
        if (n > 12) {
            due.join(12 - n % 2, (n + 1) / 2, n);
        }
        return due;
    }

    /** "A BATCH of c changes on a table of n rows: SORT (n + c), SCAN (n + c), SQUEEZE (n + c)." */
    private static void batchesOfAllNumbersOfRows() {
        for (int n = 0; n <= 12; n++) {
            for (int c = 0; c <= 6; c++) {
                int changes = c;
                DueTrace due = new DueTrace();
                due.batch(n, c);
                traces(c + " drops on " + n + " rows", due, table(n), x -> {
                    for (int k = 0; k < changes; k++) {
                        x.drop(k);
                    }
                }, APPLY);
                traces(c + " puts on " + n + " rows", due, table(n), x -> {
                    for (int k = 0; k < changes; k++) {
                        x.put(k, k, k);
                    }
                }, APPLY);
            }
        }
        traces("a batch of one change on one row", "R0 R1 W0 W1 R0 W0 R1 W1 R0 R1 W0 W1",
            table(1), x -> x.drop(1), APPLY);
        traces("a batch of two changes on no row", "R0 R1 W0 W1 R0 W0 R1 W1 R0 R1 W0 W1", x -> {
            x.drop(1);
            x.put(1, 1, 1);
        }, APPLY);
    }

    /** "then, when m is above 0": without a pair there are the first four parts alone */
    private static void joinWithoutAPair() {
        traces("a join of no rows", "", oneKey(0, 0), RUN);
        traces("a join of one row with none", "R0 W0 R0 W0", oneKey(1, 0), RUN);
        traces("a join of no row with one", "R0 W0 R0 W0", oneKey(0, 1), RUN);
        for (int n = 0; n <= 12; n++) {
            for (int u = 0; u <= 12; u++) {
                int left = n;
                int right = u;
                DueTrace due = new DueTrace();
                due.sort(0, n + u);
                due.scan(0, n + u);
                due.scanBack(n + u);
                due.sort(0, n + u);
                traces("a join without a pair, " + n + " rows with " + u, due, x -> {
                    for (int r = 0; r < left; r++) {
                        x.add(0, 1, r, r);
                    }
                    for (int r = 0; r < right; r++) {
                        x.add(1, 2, r, r);
                    }
                    x.plan(0);
                    x.join(1, 0, 0);
                }, RUN);
            }
        }
    }

    /** m = 1: all parts are there, though SORT 1 is nothing; "with 40 added to every place" */
    private static void joinOfOnePair() {
        traces("a join of one row with one", "R0 R1 W0 W1 R0 W0 R1 W1 R1 W1 R0 W0 R0 R1 W0 W1"
            + " R0 W40 R1 W41"
            + " R0 W0 R1 W1 R0 R1 W0 W1 R0 R1 W0 W1 R0 W0"
            + " R40 W40 R41 W41 R40 R41 W40 W41 R40 R41 W40 W41 R40 W40"
            + " R0 R40 W0", oneKey(1, 1), RUN);
    }

    /** "with l the greater one of k and m" */
    private static void joinWithTheGreaterOfKAndM() {
        // sort, scan, scan back, sort, copies; twice scan, squeeze, spread, scan m; sort m, m rows; the end
        Check.due("m is less than k: 1 with 2", Scene.after(oneKey(1, 2), RUN).length(),
            12 + 6 + 6 + 12 + 6 + 2 * (6 + 12 + 12 + 4) + 4 + 6 + 4);
        Check.due("m is k: 2 with 2", Scene.after(oneKey(2, 2), RUN).length(),
            20 + 8 + 8 + 20 + 8 + 2 * (8 + 20 + 20 + 8) + 20 + 12 + 20);
        Check.due("m is above k: 2 with 3", Scene.after(oneKey(2, 3), RUN).length(),
            36 + 10 + 10 + 36 + 10 + 2 * (10 + 32 + 44 + 12) + 48 + 18 + 48);
        String trace = Scene.trace(oneKey(2, 3), RUN);
        Check.due("the first exchange of a spread past k", part(trace, 144, 148), "R1 R5 W1 W5");
    }

    /** Every number of rows on both sides; every number of pairs that they can have with one key. */
    private static void joinOfAllNumbersOfRows() {
        for (int n = 0; n <= 12; n++) {
            for (int u = 0; u <= 12; u++) {
                DueTrace due = new DueTrace();
                due.join(n, u, n * u);
                due.sort(0, n * u <= 24 ? n * u : 0);
                traces("a join of " + n + " rows with " + u, due, oneKey(n, u), RUN);
            }
        }
        for (int n = 13; n <= 24; n++) {
            for (int u = 0; u <= 12; u++) {
                int right = u;
                int of = n;
                DueTrace due = traceBefore(n);
                due.join(n, u, u == 0 ? 0 : keyPairs(n));
                due.sort(0, u == 0 ? 0 : keyPairs(n));
                traces("a join of " + n + " joined rows with " + u, due, x -> {
                    joinOf(of).on(x);
                    for (int r = 0; r < right; r++) {
                        x.add(2, r == 0 ? 5 : 99, r, r);
                    }
                    x.join(2, 0, 0);
                }, RUN);
            }
        }
    }

    /** How many rows of key 5 a join of n rows has. */
    private static int keyPairs(int n) {
        int pairs = n % 2;
        for (int r = 0; n % 2 == 0 && r < n / 2; r++) {
            pairs += r % 6 == 5 ? 2 : 0;
        }
        return pairs;
    }

    /** n = 24 and u = 12, so that k = 36 and the places reach to 75; m = 0 .. 24 */
    private static void joinOfTheMostRowsWithAllNumbersOfPairs() {
        for (int m = 0; m <= 24; m++) {
            DueTrace due = new DueTrace();
            due.join(12, 12, 24);
            due.join(24, 12, m);
            due.sort(0, m);
            Check.due("pairs of 24 rows with 12", Scene.after(mostRows(m)).run(), m);
            traces("a join of 24 rows with 12 that has " + m, due, mostRows(m), RUN);
            String places = m == 0 ? " R35 " : " R75 ";
            Check.due("it reaches" + places, (Scene.trace(mostRows(m), RUN) + " ").contains(places), true);
        }
    }

    /** Column 2 of the 24 rows that are joined first has 0 .. 9 twice each, and 50 once. */
    private static Calls mostRows(int m) {
        return x -> {
            for (int r = 0; r < 12; r++) {
                x.add(0, r / 2, r, r % 2);
                x.add(1, r / 2, -r, r == 11 ? 50 : r / 2 * 2);
                x.add(2, r, r, r < m / 2 ? r % 10 : r < (m + 1) / 2 ? 50 : 99);
            }
            x.plan(0);
            x.join(1, 0, 0);
            x.join(2, 2, 2);
        };
    }

    /** "At the end of a plan: SORT of the result's number of rows." */
    private static void sortAtThePlansEnd() {
        String[] ends = {"", "", " R0 R1 W0 W1", " R0 R2 W0 W2 R0 R1 W0 W1 R1 R2 W1 W2"};
        String filter = "R0 W0 R1 W1 R2 W2 R0 R1 W0 W1 R1 R2 W1 W2 R0 R2 W0 W2";
        for (int m = 0; m <= 3; m++) {
            int above = m + 1;
            Calls less = x -> x.filter(0, 0, above);
            traces("a filter of three rows that keeps " + m, filter + ends[m], table(3), less, RUN);
        }
    }

    /** "A run that ends with ROOM has the trace up to that: of a JOIN, its first four parts" */
    private static void joinThatEndsWithRoom() {
        Check.due("25 pairs", Scene.after(oneKey(5, 5)).run(), ROOM);
        DueTrace first = firstFourParts(new DueTrace(), 10);
        traces("a join without room", first, oneKey(5, 5), RUN);
        traces("steps behind it do nothing", first, oneKey(5, 5), x -> {
            x.distinct();
            x.pick(0, 0, 0);
        }, RUN);
        DueTrace third = new DueTrace();
        third.pick(5);
        third.filter(5);
        Calls behindSteps = x -> {
            x.plan(0);
            x.pick(0, 1, 2);
            x.filter(0, 1, 5);
            x.join(1, 0, 0);
        };
        traces("steps before it have theirs", firstFourParts(third, 10), oneKey(5, 5), behindSteps, RUN);
        DueTrace joined = new DueTrace();
        joined.join(2, 12, 24);
        traces("a join before it has its own", firstFourParts(joined, 36), oneKey(2, 12), x -> x.join(1, 0, 0), RUN);
        BlindTables latest = Scene.after(oneKey(2, 12), RUN, x -> x.join(1, 0, 0), RUN);
        Check.due("the latest trace is that of ROOM", latest.length(), joined.length());
    }

    private static DueTrace firstFourParts(DueTrace due, int k) {
        due.sort(0, k);
        due.scan(0, k);
        due.scanBack(k);
        due.sort(0, k);
        return due;
    }

    /** "of a BATCH all" */
    private static void batchThatEndsWithRoom() {
        for (int c = 1; c <= 6; c++) {
            int changes = c;
            Calls batch = x -> {
                x.put(0, 0, 0);
                for (int k = 1; k < changes; k++) {
                    x.drop(-k);
                }
            };
            DueTrace due = new DueTrace();
            due.batch(12, c);
            Check.due("13 rows by " + c + " changes", Scene.after(table(12), batch).apply(0), ROOM);
            traces("a batch without room, of " + c + " changes", due, table(12), batch, APPLY);
        }
    }

    /** "accesses hang on the numbers of rows alone, never on what is in them" */
    private static void rowsHaveNoBearing() {
        Calls plan = x -> {
            x.plan(0);
            x.join(1, 0, 0);
            x.group(0, 1);
        };
        Calls low = x -> {
            Texts.fill(x, 0, "1 1 1, 1 2 2, 3 3 3, 4 4 4");
            Texts.fill(x, 1, "1 0 0, 3 0 0, 3 0 0, 9 9 9");
        };
        Calls high = x -> {
            Texts.fill(x, 0, "2147483647 0 0, -5 0 0, -5 0 0, 2147483647 7 7");
            Texts.fill(x, 1, "-2147483648 0 0, 2147483647 0 0, 1 1 1, -5 2 2");
        };
        Check.due("pairs of the one", Scene.after(low, plan).run(), 2);
        Check.due("pairs of the other", Scene.after(high, plan).run(), 2);
        Check.due("two traces of the same numbers", Scene.trace(low, plan, RUN), Scene.trace(high, plan, RUN));
    }
}
