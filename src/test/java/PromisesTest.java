/** Each promise of the document by hand: ordinary inputs, the edges that it names, and wrong inputs. */
public final class PromisesTest {
    private static final int NONE = BlindTables.NONE;
    private static final int ROOM = BlindTables.ROOM;
    private static final int LEAST = Integer.MIN_VALUE;
    private static final int MOST = Integer.MAX_VALUE;
    private static final int[] NO_NUMBER = {LEAST, -1, 3, MOST};

    public static void main(String[] args) {
        promise1NewObject();
        promise2Add();
        promise3Rows();
        promise4Plan();
        promise5Filter();
        promise6Pick();
        promise7Distinct();
        promise8Group();
        promise9Join();
        promise9JoinTrace();
        promise9JoinsRoom();
        promise10Run();
        promise11Put();
        promise12Drop();
        promise13Apply();
        promise14Cell();
        promise15Length();
        promise16Access();
        promise17Sum();
        Check.end();
    }

    /** Rows are written as texts: "1 2 3, 4 5 6". */
    private static BlindTables with(int t, String rows) {
        BlindTables x = new BlindTables();
        Texts.fill(x, t, rows);
        return x;
    }

    private static void runs(String what, BlindTables x, int number, String rows) {
        Check.due(what + ": run()", x.run(), number);
        Check.due(what + ": result", Texts.result(x, number), rows);
        for (int c = 0; c < 3; c++) {
            Check.due(what + ": cell behind the result", x.cell(Math.max(number, 0), c), 0);
        }
    }

    private static void table(String what, BlindTables x, int t, String rows) {
        x.plan(t);
        runs(what, x, x.rows(t), rows);
    }

    private static void promise1NewObject() {
        BlindTables x = new BlindTables();
        for (int t = 0; t < 3; t++) {
            Check.due("new: rows", x.rows(t), 0);
            Check.due("new: sum", x.sum(t), 0);
        }
        Check.due("new: no plan to run", x.run(), NONE);
        Check.due("new: no plan for a step", x.distinct(), false);
        Check.due("new: length", x.length(), 0);
        Check.due("new: access", x.access(0), NONE);
        Check.due("new: cell", x.cell(0, 0), 0);
        Check.due("new: no batch", x.apply(0), 0);
        Check.due("new: trace of no change", x.length(), 0);
    }

    private static void promise2Add() {
        BlindTables x = new BlindTables();
        for (int t : NO_NUMBER) {
            Check.due("add to no table", x.add(t, 1, 2, 3), false);
        }
        for (int r = 0; r < 12; r++) {
            Check.due("add", x.add(1, 5, 5, 5), true);
            Check.due("rows behind add", x.rows(1), r + 1);
        }
        Check.due("13th add", x.add(1, 6, 6, 6), false);
        Check.due("rows behind the 13th add", x.rows(1), 12);
        Check.due("sum behind the 13th add", x.sum(1), 12 * 5 * (31 * 31 + 31 + 1));
        Check.due("rows of another table", x.rows(0) + x.rows(2), 0);
        table("equal and outermost rows", with(0, "2147483647 0 0, -2147483648 0 0, 1 2 3, 1 2 3"), 0,
            "-2147483648 0 0, 1 2 3, 1 2 3, 2147483647 0 0");
    }

    private static void promise3Rows() {
        BlindTables x = with(2, "1 1 1, 2 2 2");
        Check.due("rows(0)", x.rows(0), 0);
        Check.due("rows(2)", x.rows(2), 2);
        for (int t : NO_NUMBER) {
            Check.due("rows of no table", x.rows(t), NONE);
        }
    }

    private static void promise4Plan() {
        BlindTables x = with(0, "1 1 1, 2 2 2");
        Texts.fill(x, 1, "7 7 7");
        for (int t : NO_NUMBER) {
            Check.due("plan on no table", x.plan(t), false);
        }
        Check.due("no plan came of it", x.run(), NONE);
        Check.due("plan(0)", x.plan(0), true);
        Check.due("filter", x.filter(0, 1, 2), true);
        Check.due("plan(3)", x.plan(3), false);
        runs("the plan stays behind a wrong one", x, 1, "2 2 2");
        Check.due("plan(1)", x.plan(1), true);
        Check.due("the result stays behind plan", x.cell(0, 0), 2);
        Check.due("the trace stays behind plan", x.length() > 0, true);
        runs("a new plan has no steps", x, 1, "7 7 7");
    }

    private static void promise5Filter() {
        String rows = "3 1 5, -2147483648 2 6, 3 1 5, 2 9 7, 2147483647 0 0";
        String[] due = {"-2147483648 2 6, 2 9 7", "3 1 5, 3 1 5", "2147483647 0 0"};
        for (int op = 0; op < 3; op++) {
            BlindTables x = with(0, rows);
            x.plan(0);
            Check.due("filter", x.filter(0, op, 3), true);
            runs("filter of op " + op, x, due[op].split(", ").length, due[op]);
        }
        BlindTables x = with(0, rows);
        x.plan(0);
        x.filter(0, 0, LEAST);
        runs("nothing is less than the least", x, 0, "");
        Check.due("its trace", x.length(), 5 * 2 + (4 + 3 + 1) * 4);
        x.plan(0);
        x.filter(0, 2, MOST);
        runs("nothing is greater than the most", x, 0, "");
        x.plan(0);
        x.filter(1, 2, 1);
        x.filter(2, 0, 7);
        runs("two filters, columns 1 and 2", x, 1, "-2147483648 2 6");
        stepsRefused();
        filterTrace();
    }

    private static void stepsRefused() {
        BlindTables x = with(0, "1 2 3");
        Check.due("filter without a plan", x.filter(0, 0, 0), false);
        Check.due("pick without a plan", x.pick(0, 0, 0), false);
        Check.due("distinct without a plan", x.distinct(), false);
        Check.due("group without a plan", x.group(0, 0), false);
        Check.due("join without a plan", x.join(0, 0, 0), false);
        x.plan(0);
        for (int n : NO_NUMBER) {
            Check.due("filter of no column", x.filter(n, 0, 0), false);
            Check.due("filter of no op", x.filter(0, n, 0), false);
            Check.due("pick of no column a", x.pick(n, 0, 0), false);
            Check.due("pick of no column b", x.pick(0, n, 0), false);
            Check.due("pick of no column c", x.pick(0, 0, n), false);
            Check.due("group of no column g", x.group(n, 0), false);
            Check.due("group of no column a", x.group(0, n), false);
            Check.due("join of no table", x.join(n, 0, 0), false);
            Check.due("join of no column x", x.join(0, n, 0), false);
            Check.due("join of no column y", x.join(0, 0, n), false);
        }
        runs("refused steps leave no trace in the plan", x, 1, "1 2 3");
        Check.due("and none in the store", x.length(), 0);
        Check.due("step 1", x.pick(2, 1, 0), true);
        Check.due("step 2", x.pick(1, 0, 2), true);
        Check.due("step 3", x.pick(0, 0, 1), true);
        Check.due("4th filter", x.filter(0, 0, 0), false);
        Check.due("4th pick", x.pick(0, 0, 0), false);
        Check.due("4th distinct", x.distinct(), false);
        Check.due("4th group", x.group(0, 0), false);
        Check.due("4th join", x.join(0, 0, 0), false);
        runs("three steps", x, 1, "2 2 3");
    }

    private static void filterTrace() {
        BlindTables x = with(0, "1 0 0, 2 0 0, 3 0 0");
        x.plan(0);
        x.filter(0, 2, 2);
        runs("filter of three rows", x, 1, "3 0 0");
        Check.due("trace of a filter of three rows", Texts.trace(x),
            "R0 W0 R1 W1 R2 W2 R0 R1 W0 W1 R1 R2 W1 W2 R0 R2 W0 W2");
    }

    private static void promise6Pick() {
        BlindTables x = with(0, "1 2 3, 4 5 6");
        for (int p = 0; p < 27; p++) {
            int a = p / 9;
            int b = p / 3 % 3;
            int c = p % 3;
            x.plan(0);
            Check.due("pick", x.pick(a, b, c), true);
            runs("pick", x, 2, (a + 1) + " " + (b + 1) + " " + (c + 1)
                + ", " + (a + 4) + " " + (b + 4) + " " + (c + 4));
        }
        Check.due("trace of a pick of two rows", Texts.trace(x), "R0 W0 R1 W1 R0 R1 W0 W1");
        BlindTables y = with(0, "1 9 3, 2 8 6, 3 8 6");
        y.plan(0);
        y.pick(1, 2, 2);
        runs("picked rows are ordered anew, equal ones stay", y, 3, "8 6 6, 8 6 6, 9 3 3");
    }

    private static void promise7Distinct() {
        BlindTables x = with(0, "2 2 2, 1 1 2, 2 2 2, 1 2 1, 1 1 1, 2 2 2, 1 1 2");
        x.plan(0);
        Check.due("distinct", x.distinct(), true);
        runs("distinct", x, 4, "1 1 1, 1 1 2, 1 2 1, 2 2 2");
        BlindTables y = with(0, "0 0 0, 0 0 0");
        y.plan(0);
        y.distinct();
        runs("distinct of two equal rows", y, 1, "0 0 0");
        Check.due("trace of it", Texts.trace(y), "R0 R1 W0 W1 R0 W0 R1 W1 R0 R1 W0 W1");
        y.plan(1);
        y.distinct();
        runs("distinct of no rows", y, 0, "");
        Check.due("trace of no rows", y.length(), 0);
    }

    private static void promise8Group() {
        BlindTables x = with(0, "1 10 7, 2 20 7, 1 30 8, -5 2147483647 8, -5 1 9, 2 1 9");
        x.plan(0);
        Check.due("group", x.group(0, 1), true);
        runs("group by column 0", x, 3, "-5 -2147483648 2, 1 40 2, 2 21 2");
        x.plan(0);
        x.group(2, 0);
        runs("group by column 2", x, 3, "7 3 2, 8 -4 2, 9 -3 2");
        x.plan(0);
        x.group(0, 0);
        runs("group and sum of the same column", x, 3, "-5 -10 2, 1 2 2, 2 4 2");
        x.group(2, 1);
        runs("a group of groups", x, 1, "2 -4 3");
        BlindTables y = with(0, "3 4 5, 3 6 7");
        y.plan(0);
        y.group(0, 2);
        runs("group of two rows", y, 1, "3 12 2");
        Check.due("trace of it", Texts.trace(y), "R0 R1 W0 W1 R0 W0 R1 W1 R1 W1 R0 W0 R0 R1 W0 W1");
    }

    private static void promise9Join() {
        BlindTables x = with(0, "1 10 100, 2 20 200, 1 11 101");
        Texts.fill(x, 1, "1 5 7, 1 6 8, 3 1 1, 2 4 4");
        x.plan(0);
        Check.due("join", x.join(1, 0, 0), true);
        runs("join", x, 5, "1 15 107, 1 16 108, 1 16 108, 1 17 109, 2 24 204");
        BlindTables y = with(0, "9 4 2147483647, 8 5 1, 7 5 2");
        Texts.fill(y, 2, "4 2147483646 5, 1 1 4, 0 0 6, 3 3 5");
        y.plan(0);
        y.join(2, 1, 2);
        runs("join of column 1 with column 2, wrapping", y, 5,
            "4 5 -2147483645, 5 -2147483645 6, 5 -2147483645 7, 5 8 6, 5 8 7");
        y.plan(2);
        y.join(0, 2, 1);
        runs("the same from the other side", y, 5,
            "4 5 -2147483645, 5 -2147483645 6, 5 -2147483645 7, 5 8 6, 5 8 7");
        BlindTables z = with(0, "1 2 3, 1 4 5");
        z.plan(0);
        z.join(0, 0, 0);
        runs("join of a table with itself", z, 4, "1 4 6, 1 6 8, 1 6 8, 1 8 10");
        Texts.fill(z, 0, "2 0 0");
        runs("with its rows when the plan is run", z, 5, "1 4 6, 1 6 8, 1 6 8, 1 8 10, 2 0 0");
        z.plan(0);
        z.join(1, 0, 0);
        runs("join with an empty table", z, 0, "");
        z.plan(1);
        z.join(0, 0, 0);
        runs("join from an empty table", z, 0, "");
        z.plan(1);
        z.join(2, 0, 0);
        runs("join of two empty tables", z, 0, "");
        Check.due("its trace", z.length(), 0);
    }

    private static void promise9JoinTrace() {
        BlindTables x = with(0, "1 2 3");
        Texts.fill(x, 1, "5 6 1");
        x.plan(0);
        x.join(1, 0, 2);
        runs("join of one row with one", x, 1, "1 8 4");
        Check.due("trace of it", Texts.trace(x), "R0 R1 W0 W1 R0 W0 R1 W1 R1 W1 R0 W0 R0 R1 W0 W1 R0 W40 R1 W41"
            + " R0 W0 R1 W1 R0 R1 W0 W1 R0 R1 W0 W1 R0 W0"
            + " R40 W40 R41 W41 R40 R41 W40 W41 R40 R41 W40 W41 R40 W40 R0 R40 W0");
        x.plan(0);
        x.join(1, 0, 0);
        runs("join without a pair", x, 0, "");
        Check.due("trace without a pair", Texts.trace(x), "R0 R1 W0 W1 R0 W0 R1 W1 R1 W1 R0 W0 R0 R1 W0 W1");
    }

    private static void promise9JoinsRoom() {
        BlindTables x = with(0, "7 0 0, 7 1 0, 7 2 0, 7 3 0");
        Texts.fill(x, 1, "7 0 0, 7 4 0, 7 8 0, 7 12 0, 7 16 0, 7 20 0");
        x.plan(0);
        x.join(1, 0, 0);
        StringBuilder due = new StringBuilder("7 0 0");
        for (int b = 1; b < 24; b++) {
            due.append(", 7 ").append(b).append(" 0");
        }
        runs("24 pairs, more than there are rows", x, 24, due.toString());
        Texts.fill(x, 0, "7 9 9");
        Check.due("30 pairs", x.run(), ROOM);
        DueTrace roomTrace = new DueTrace();
        roomTrace.join(5, 6, 30);
        Check.due("30 pairs: the first four parts", x.length(), roomTrace.length());
        Check.due("30 pairs: no result", Texts.result(x, 1), "0 0 0");
        x.filter(0, 0, 0);
        Check.due("no step is done behind ROOM", x.run(), ROOM);
        Check.due("nor leaves a trace", x.length(), roomTrace.length());
        x.drop(7);
        x.apply(1);
        Texts.fill(x, 1, "7 0 0, 7 1 0, 7 2 0, 7 3 0, 7 4 0");
        x.plan(0);
        x.join(1, 0, 0);
        Check.due("25 pairs", x.run(), ROOM);
        x.plan(0);
        x.filter(1, 0, 9);
        x.join(1, 0, 0);
        Check.due("20 pairs", x.run(), 20);
        x.join(1, 0, 0);
        Check.due("100 pairs in the third step", x.run(), ROOM);
        Check.due("100 pairs: no result", Texts.result(x, 1), "0 0 0");
    }

    private static void promise10Run() {
        BlindTables x = with(1, "4 4 4, 1 2 3, 4 4 3, 4 3 9, 1 2 3");
        x.put(1, 1, 1);
        x.put(2, 2, 2);
        x.apply(0);
        int before = x.length();
        Check.due("run without a plan", x.run(), NONE);
        Check.due("its trace stays", x.length(), before);
        x.plan(1);
        runs("a plan without steps", x, 5, "1 2 3, 1 2 3, 4 3 9, 4 4 3, 4 4 4");
        runs("the plan stays", x, 5, "1 2 3, 1 2 3, 4 3 9, 4 4 3, 4 4 4");
        Check.due("the table stays", x.rows(1), 5);
        Texts.fill(x, 1, "0 0 0");
        runs("the table's rows as they are now", x, 6, "0 0 0, 1 2 3, 1 2 3, 4 3 9, 4 4 3, 4 4 4");
        x.filter(0, 2, 0);
        x.distinct();
        runs("steps one after the other", x, 4, "1 2 3, 4 3 9, 4 4 3, 4 4 4");
        x.group(0, 2);
        runs("three steps", x, 2, "1 3 1, 4 16 3");
        DueTrace due = new DueTrace();
        due.filter(6);
        due.distinct(5);
        due.group(4);
        due.sort(0, 2);
        Check.due("the trace of three steps and the end", x.length(), due.length());
        for (int k = 0; k < due.length(); k++) {
            Check.due("its access " + k, x.access(k), due.get(k));
        }
        x.plan(2);
        runs("an empty table", x, 0, "");
        Check.due("an empty table's trace", x.length(), 0);
    }

    private static void promise11Put() {
        BlindTables x = new BlindTables();
        for (int n = 0; n < 6; n++) {
            Check.due("put", x.put(n, -n, 2 * n), true);
        }
        Check.due("7th change", x.put(9, 9, 9), false);
        Check.due("rows before apply", x.rows(0), 0);
        Check.due("apply", x.apply(0), 6);
        table("six puts", x, 0, "0 0 0, 1 -1 2, 2 -2 4, 3 -3 6, 4 -4 8, 5 -5 10");
        Check.due("put to an empty batch again", x.put(MOST, LEAST, 0), true);
        Check.due("apply to another table", x.apply(2), 1);
        table("one put", x, 2, "2147483647 -2147483648 0");
    }

    private static void promise12Drop() {
        BlindTables x = with(0, "1 1 1, 2 2 2, 1 3 3, -2147483648 1 1, 2147483647 1 1");
        Check.due("put", x.put(8, 0, 0), true);
        Check.due("drop", x.drop(1), true);
        Check.due("drop of a number that is not there", x.drop(6), true);
        Check.due("drop of the same again", x.drop(1), true);
        Check.due("drop of the least", x.drop(LEAST), true);
        Check.due("drop of the most", x.drop(MOST), true);
        Check.due("7th change, a drop", x.drop(2), false);
        Check.due("7th change, a put", x.put(2, 2, 2), false);
        Check.due("apply", x.apply(0), 2);
        table("dropped", x, 0, "2 2 2, 8 0 0");
        for (int n = 0; n < 6; n++) {
            Check.due("drop", x.drop(n), true);
        }
        Check.due("7th drop", x.drop(8), false);
        Check.due("apply of drops alone", x.apply(0), 1);
        table("what is left", x, 0, "8 0 0");
        Check.due("a drop of column 0, not of another", x.drop(0), true);
        Check.due("apply", x.apply(0), 1);
    }

    private static void promise13Apply() {
        BlindTables x = with(0, "5 1 1, 6 2 2, 5 1 1");
        x.put(5, 7, 7);
        x.drop(5);
        x.put(5, 8, 8);
        for (int t : NO_NUMBER) {
            Check.due("apply to no table", x.apply(t), NONE);
        }
        Check.due("no trace of it", x.length(), 0);
        Check.due("apply", x.apply(0), 3);
        table("puts stay though dropped, before and behind", x, 0, "5 7 7, 5 8 8, 6 2 2");
        Check.due("an empty batch", x.apply(0), 3);
        DueTrace empty = new DueTrace();
        empty.batch(3, 0);
        Check.due("an empty batch's trace", x.length(), empty.length());
        Check.due("the result stays", Texts.result(x, 3), "5 7 7, 5 8 8, 6 2 2");
        table("the table too", x, 0, "5 7 7, 5 8 8, 6 2 2");
        BlindTables y = with(0, "1 0 0");
        y.drop(2);
        Check.due("one change on one row", y.apply(0), 1);
        Check.due("its trace", Texts.trace(y), "R0 R1 W0 W1 R0 W0 R1 W1 R0 R1 W0 W1");
        promise13Room();
    }

    private static void promise13Room() {
        BlindTables x = with(0, "1 0 0, 2 0 0, 3 0 0, 4 0 0, 5 0 0, 6 0 0, 7 0 0, 8 0 0, 9 0 0, 9 0 1, 9 0 2");
        x.put(0, 0, 0);
        Check.due("twelve rows", x.apply(0), 12);
        int sum = x.sum(0);
        x.put(0, 0, 0);
        x.drop(77);
        Check.due("thirteen rows", x.apply(0), ROOM);
        Check.due("the table stays", x.sum(0), sum);
        Check.due("with its rows", x.rows(0), 12);
        DueTrace due = new DueTrace();
        due.batch(12, 2);
        Check.due("all of the trace", x.length(), due.length());
        for (int k = 0; k < due.length(); k++) {
            Check.due("access " + k + " behind ROOM", x.access(k), due.get(k));
        }
        Check.due("no change is left behind ROOM", x.apply(1), 0);
        Check.due("its trace", x.length(), 0);
        x.put(1, 1, 1);
        x.put(1, 2, 2);
        x.put(1, 3, 3);
        x.drop(9);
        Check.due("three for three", x.apply(0), 12);
        x.plan(0);
        x.filter(0, 1, 1);
        runs("what was put", x, 4, "1 0 0, 1 1 1, 1 2 2, 1 3 3");
    }

    private static void promise14Cell() {
        BlindTables x = with(0, "1 2 3, 4 5 6");
        Check.due("cell before a run", x.cell(0, 0), 0);
        x.plan(0);
        Check.due("cell before the plan is run", x.cell(0, 0), 0);
        runs("run", x, 2, "1 2 3, 4 5 6");
        for (int n : new int[] {LEAST, -1, 2, 3, 24, MOST}) {
            Check.due("cell of no row", x.cell(n, 0), 0);
        }
        for (int n : NO_NUMBER) {
            Check.due("cell of no column", x.cell(0, n), 0);
        }
        x.drop(1);
        x.apply(0);
        x.add(0, 0, 0, 0);
        x.plan(1);
        Check.due("what comes behind a run leaves its result", Texts.result(x, 2), "1 2 3, 4 5 6");
        runs("a shorter result", x, 0, "");
        Check.due("has none of the one before", x.cell(1, 1), 0);
    }

    private static void promise15Length() {
        BlindTables x = with(0, "1 0 0, 2 0 0, 3 0 0, 4 0 0");
        x.plan(0);
        x.run();
        Check.due("length of a plan's trace", x.length(), 20);
        x.plan(1);
        x.add(0, 5, 0, 0);
        x.apply(3);
        Check.due("length stays", x.length(), 20);
        x.apply(0);
        Check.due("length of a batch's trace", x.length(), 9 * 4 + 5 * 2 + (4 + 3 + 1) * 4);
        x.run();
        Check.due("length of a run without rows", x.length(), 0);
    }

    private static void promise16Access() {
        BlindTables x = with(0, "1 0 0, 2 0 0, 3 0 0");
        x.plan(0);
        x.run();
        Check.due("trace of the sort of three", Texts.trace(x), "R0 R2 W0 W2 R0 R1 W0 W1 R1 R2 W1 W2");
        Check.due("access(0)", x.access(0), 0);
        Check.due("access(1)", x.access(1), 4);
        Check.due("access(11)", x.access(11), 5);
        for (int k : new int[] {LEAST, -1, 12, 13, 20000, MOST}) {
            Check.due("no access " + k, x.access(k), NONE);
        }
        x.plan(1);
        x.run();
        Check.due("none of the trace before", x.access(0), NONE);
    }

    private static void promise17Sum() {
        BlindTables x = with(0, "1 2 3, 4 5 6");
        Texts.fill(x, 1, "4 5 6, 1 2 3");
        Check.due("sum", x.sum(0), 31 * (31 + 2) + 3 + 31 * (31 * 4 + 5) + 6);
        Check.due("the order counts nowhere", x.sum(1), x.sum(0));
        Texts.fill(x, 2, "2147483647 -2147483648 2147483647, 2147483647 2147483647 1");
        int first = 31 * (31 * MOST + LEAST) + MOST;
        int second = 31 * (31 * MOST + MOST) + 1;
        Check.due("wrapping", x.sum(2), first + second);
        for (int t : NO_NUMBER) {
            Check.due("sum of no table", x.sum(t), 0);
        }
    }
}
