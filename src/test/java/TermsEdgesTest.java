import java.util.Arrays;

/** The bounds that the head and the section "Terms" name, save the traces: a test for each sentence. */
public final class TermsEdgesTest {
    private static final int ROOM = BlindTables.ROOM;
    private static final int LEAST = Integer.MIN_VALUE;
    private static final int MOST = Integer.MAX_VALUE;
    private static final int[] EDGES = {LEAST, LEAST + 1, -1, 0, 1, MOST - 1, MOST};

    public static void main(String[] args) {
        usedForAtMost512Calls();
        threeInts();
        atMostTwelveRowsEach();
        sameRowsAsOftenAsAdded();
        orderCountsNowhere();
        orderedByColumn0Then1Then2();
        atMostThreeSteps();
        eachStepOnWhatTheOneBeforeHasGiven();
        noStepOnWhatAnEarlierRunHasLeft();
        filterLess();
        filterEqual();
        filterGreater();
        pickHasAsManyRows();
        distinctEachDifferentRowOnce();
        groupEachValue();
        groupSumWraps();
        groupNumberOfRows();
        joinEqualColumns();
        joinRowsAsTheyAreWhenRun();
        joinSumsWrap();
        joinOfNoRows();
        joinOfRowsAtPlacesUsedBefore();
        joinAtMost24();
        joinEndsThePlanWithRoom();
        resultIsOrdered();
        resultWithoutAStep();
        atMostSixChanges();
        dropsByColumn0();
        putsStayThoughDropped();
        batchAtMostTwelve();
        batchTableStaysBehindRoom();
        Check.end();
    }

    /** Runs the plan and looks at its whole result. */
    private static void gives(String what, Calls calls, int number, String rows) {
        Check.due(what + ": run()", Scene.after(calls).run(), number);
        Calls run = BlindTables::run;
        Check.due(what, Scene.result(number, calls, run), rows);
        Check.due(what + ": behind its end", Scene.after(calls, run).cell(Math.max(number, 0), 0), 0);
    }

    private static String repeat(String row, int times) {
        String[] rows = new String[times];
        Arrays.fill(rows, row);
        return String.join(", ", rows);
    }

    /** "An object is used for at most 512 calls after it has been made" */
    private static void usedForAtMost512Calls() {
        Calls before = x -> {
            for (int k = 0; k < 85; k++) {
                x.add(0, k, k, k);
                x.plan(0);
                x.distinct();
                x.run();
                x.drop(k - 5);
                x.apply(0);
            }
            x.put(100, 1, 1);
        };
        Check.due("512th call, run", Scene.after(before).run(), 5);
        Check.due("512th call, apply", Scene.after(before).apply(0), 6);
        Check.due("512th call, add", Scene.after(before).add(0, 1, 1, 1), true);
        Check.due("512th call, put", Scene.after(before).put(1, 1, 1), true);
        Check.due("512th call, cell", Scene.after(before).cell(5, 2), 84);
        Check.due("512th call, length", Scene.after(before).length(), 16 * 4 + 7 * 2 + (6 + 5 + 3) * 4);
        Check.due("512th call, sum", Scene.after(before).sum(0), (80 + 81 + 82 + 83 + 84) * (31 * 31 + 31 + 1));
    }

    /** "A ROW has three ints, its COLUMNS 0 .. 2." */
    private static void threeInts() {
        for (int v : EDGES) {
            for (int w : EDGES) {
                BlindTables x = new BlindTables();
                x.add(0, v, w, v);
                x.put(w, v, w);
                x.apply(1);
                x.plan(0);
                x.run();
                Check.due("an added row", Texts.result(x, 1), v + " " + w + " " + v);
                x.plan(1);
                x.run();
                Check.due("a row that was put", Texts.result(x, 1), w + " " + v + " " + w);
            }
        }
    }

    /** "TABLES 0 .. 2 hold at most 12 rows each" */
    private static void atMostTwelveRowsEach() {
        for (int t = 0; t < 3; t++) {
            int table = t;
            Calls eleven = x -> Texts.fill(x, table, repeat("3 2 1", 11));
            Check.due("the 12th row", Scene.after(eleven).add(t, 1, 2, 3), true);
            Calls twelve = x -> Texts.fill(x, table, repeat("3 2 1", 12));
            Scene.refused("the 13th row", x -> x.add(table, 1, 2, 3), twelve);
            Check.due("a row of another table", Scene.after(twelve).add((t + 1) % 3, 1, 2, 3), true);
            Check.due("a row of the third one", Scene.after(twelve).add((t + 2) % 3, 1, 2, 3), true);
        }
        Check.due("all three are full", Scene.rows(0, Scene.FULL).split(", ").length
            + Scene.rows(1, Scene.FULL).split(", ").length + Scene.rows(2, Scene.FULL).split(", ").length, 36);
    }

    /** "the same ones as often as they were added" */
    private static void sameRowsAsOftenAsAdded() {
        for (int n = 1; n <= 12; n++) {
            String rows = repeat("5 -5 5", n);
            Calls added = x -> Texts.fill(x, 1, rows);
            Check.due(n + " equal rows", Scene.after(added).rows(1), n);
            Check.due(n + " equal rows", Scene.rows(1, added), rows);
        }
        Calls put = x -> {
            for (int n = 0; n < 6; n++) {
                x.put(5, -5, 5);
            }
        };
        Check.due("six equal puts", Scene.after(put).apply(0), 6);
        Check.due("six equal puts", Scene.rows(0, put, x -> x.apply(0)), repeat("5 -5 5", 6));
    }

    /** "their order counts nowhere" */
    private static void orderCountsNowhere() {
        String[] rows = {"1 5 2", "2 5 1", "1 4 2", "1 5 2", "2 4 9"};
        Calls[] plans = {
            Scene.NEW,
            x -> x.distinct(),
            x -> x.group(0, 1),
            x -> x.group(1, 2),
            x -> x.join(1, 0, 0),
            x -> x.join(0, 1, 1),
            x -> x.filter(1, 2, 4),
        };
        Calls end = x -> {
            x.run();
            x.drop(2);
            x.put(2, 2, 2);
            x.apply(2);
        };
        String[] due = new String[plans.length];
        for (int order = 0; order < 120; order++) {
            String added = permuted(rows, order);
            Calls tables = x -> {
                Texts.fill(x, 0, added);
                Texts.fill(x, 1, "1 1 1, 2 2 2, 2 3 3");
                Texts.fill(x, 2, added);
                x.plan(0);
            };
            for (int p = 0; p < plans.length; p++) {
                String state = Scene.answers(tables, plans[p], BlindTables::run) + Scene.rows(2, tables, end);
                due[p] = order == 0 ? state : due[p];
                Check.due("order " + added + ", plan " + p, state, due[p]);
            }
        }
    }

    private static String permuted(String[] rows, int order) {
        StringBuilder text = new StringBuilder();
        boolean[] taken = new boolean[rows.length];
        int rest = order;
        for (int left = rows.length; left > 0; left--) {
            int skip = rest % left;
            rest /= left;
            int at = 0;
            while (taken[at] || skip > 0) {
                skip -= taken[at] ? 0 : 1;
                at++;
            }
            taken[at] = true;
            text.append(text.length() == 0 ? "" : ", ").append(rows[at]);
        }
        return text.toString();
    }

    /** "Rows are ORDERED by column 0, then 1, then 2." */
    private static void orderedByColumn0Then1Then2() {
        gives("by column 0 first", x -> {
            Texts.fill(x, 0, "2 0 0, 1 9 9, -1 5 5");
            x.plan(0);
        }, 3, "-1 5 5, 1 9 9, 2 0 0");
        gives("then by column 1", x -> {
            Texts.fill(x, 0, "1 2 0, 1 -1 9, 1 1 9, 0 7 7");
            x.plan(0);
        }, 4, "0 7 7, 1 -1 9, 1 1 9, 1 2 0");
        gives("then by column 2", x -> {
            Texts.fill(x, 0, "1 1 2, 1 1 -2, 1 1 1, 1 0 7");
            x.plan(0);
        }, 4, "1 0 7, 1 1 -2, 1 1 1, 1 1 2");
        for (int c = 0; c < 3; c++) {
            String low = only(c, LEAST);
            String high = only(c, MOST);
            gives("the least and the most in column " + c, x -> {
                Texts.fill(x, 0, high + ", 0 0 0, " + low);
                x.plan(0);
            }, 3, low + ", 0 0 0, " + high);
        }
    }

    /** A row of one column's value, and 0 in the others. */
    private static String only(int column, int value) {
        return column == 0 ? value + " 0 0" : column == 1 ? "0 " + value + " 0" : "0 0 " + value;
    }

    /** "A PLAN is at most 3 STEPS" */
    private static void atMostThreeSteps() {
        Calls two = x -> {
            Texts.fill(x, 0, "1 2 3, 1 2 3, 4 5 6");
            x.plan(0);
            x.distinct();
            x.pick(2, 1, 0);
        };
        Calls three = x -> x.filter(0, 2, 3);
        Check.due("a third filter", Scene.after(two).filter(0, 0, 0), true);
        Check.due("a third pick", Scene.after(two).pick(0, 0, 0), true);
        Check.due("a third distinct", Scene.after(two).distinct(), true);
        Check.due("a third group", Scene.after(two).group(0, 0), true);
        Check.due("a third join", Scene.after(two).join(0, 0, 0), true);
        Scene.refused("a fourth filter", x -> x.filter(0, 0, 0), two, three);
        Scene.refused("a fourth pick", x -> x.pick(0, 0, 0), two, three);
        Scene.refused("a fourth distinct", x -> x.distinct(), two, three);
        Scene.refused("a fourth group", x -> x.group(0, 0), two, three);
        Scene.refused("a fourth join", x -> x.join(0, 0, 0), two, three);
        Check.due("three steps", Scene.after(two, three).run(), 1);
        Check.due("three steps", Scene.result(1, two, three, BlindTables::run), "6 5 4");
    }

    /** "the first one works on the rows of a table [..], each other one on what the one before has given" */
    private static void eachStepOnWhatTheOneBeforeHasGiven() {
        Calls rows = x -> {
            Texts.fill(x, 0, "1 1 1, 1 5 5, 2 5 5");
            x.plan(0);
        };
        gives("filter, then group", x -> {
            rows.on(x);
            x.filter(1, 1, 5);
            x.group(0, 1);
        }, 2, "1 5 1, 2 5 1");
        gives("group, then filter", x -> {
            rows.on(x);
            x.group(0, 1);
            x.filter(1, 1, 5);
        }, 1, "2 5 1");
        gives("each step once more", x -> {
            rows.on(x);
            x.pick(1, 2, 0);
            x.pick(1, 2, 0);
            x.pick(1, 2, 0);
        }, 3, "1 1 1, 1 5 5, 2 5 5");
        gives("steps on no rows", x -> {
            rows.on(x);
            x.filter(0, 2, 2);
            x.join(0, 0, 0);
            x.group(0, 0);
        }, 0, "");
    }

    /** The same: rows that an earlier run has kept, or lost, are to the next one like all others. */
    private static void noStepOnWhatAnEarlierRunHasLeft() {
        for (int pattern = 0; pattern < 4096; pattern++) {
            int first = pattern / 64;
            int second = pattern % 64;
            BlindTables x = new BlindTables();
            for (int r = 0; r < 6; r++) {
                x.add(0, r, first >> r & 1, second >> r & 1);
            }
            String what = "patterns " + first + " and " + second + ": ";
            x.plan(0);
            x.filter(1, 1, 1);
            Check.due(what + "a filter", x.run(), Integer.bitCount(first));
            Check.due(what + "its rows", firstColumn(x, Integer.bitCount(first)), bits(first));
            x.plan(0);
            x.filter(2, 1, 1);
            Check.due(what + "another filter", x.run(), Integer.bitCount(second));
            Check.due(what + "its rows", firstColumn(x, Integer.bitCount(second)), bits(second));
            x.plan(0);
            x.pick(1, 2, 2);
            x.distinct();
            int pairs = differentPairs(first, second);
            Check.due(what + "a distinct", x.run(), pairs);
            for (int r = 1; r < pairs; r++) {
                boolean rises = 2 * x.cell(r, 0) + x.cell(r, 1) > 2 * x.cell(r - 1, 0) + x.cell(r - 1, 1);
                Check.due(what + "its rows differ", rises, true);
            }
            for (int r = 0; r < 6; r++) {
                if ((first >> r & 1) == 1) {
                    x.drop(r);
                }
            }
            Check.due(what + "a batch", x.apply(0), 6 - Integer.bitCount(first));
            x.plan(0);
            x.run();
            Check.due(what + "its rows", firstColumn(x, 6 - Integer.bitCount(first)), bits(63 - first));
        }
    }

    private static String firstColumn(BlindTables x, int rows) {
        StringBuilder text = new StringBuilder();
        for (int r = 0; r < rows; r++) {
            text.append(x.cell(r, 0)).append(' ');
        }
        return text.toString();
    }

    private static String bits(int pattern) {
        StringBuilder text = new StringBuilder();
        for (int r = 0; r < 6; r++) {
            text.append((pattern >> r & 1) == 1 ? r + " " : "");
        }
        return text.toString();
    }

    private static int differentPairs(int first, int second) {
        int seen = 0;
        for (int r = 0; r < 6; r++) {
            seen |= 1 << 2 * (first >> r & 1) + (second >> r & 1);
        }
        return Integer.bitCount(seen);
    }

    /** A filter of each column, of rows that have the edges there. */
    private static void filters(int op, int x, int... left) {
        for (int c = 0; c < 3; c++) {
            int column = c;
            StringBuilder rows = new StringBuilder();
            for (int v : left) {
                rows.append(rows.length() == 0 ? "" : ", ").append(only(c, v));
            }
            gives("column " + c + ", op " + op + ", " + x, y -> {
                for (int v : EDGES) {
                    Texts.fill(y, 0, only(column, v));
                }
                y.plan(0);
                Check.due("filter", y.filter(column, op, x), true);
            }, left.length, rows.toString());
        }
    }

    /** "FILTER (column c, op, x): those whose column c is less than x (op 0)" */
    private static void filterLess() {
        filters(0, LEAST);
        filters(0, LEAST + 1, LEAST);
        filters(0, 0, LEAST, LEAST + 1, -1);
        filters(0, 1, LEAST, LEAST + 1, -1, 0);
        filters(0, MOST, LEAST, LEAST + 1, -1, 0, 1, MOST - 1);
    }

    /** "equal to it (1)" */
    private static void filterEqual() {
        for (int v : EDGES) {
            filters(1, v, v);
        }
        filters(1, 2);
    }

    /** "greater (2)" */
    private static void filterGreater() {
        filters(2, LEAST, LEAST + 1, -1, 0, 1, MOST - 1, MOST);
        filters(2, 0, 1, MOST - 1, MOST);
        filters(2, -1, 0, 1, MOST - 1, MOST);
        filters(2, MOST - 1, MOST);
        filters(2, MOST);
    }

    /** "PICK (a, b, c): each row with its columns a, b, c as columns 0, 1, 2; m = n." */
    private static void pickHasAsManyRows() {
        for (int n = 0; n <= 12; n++) {
            int number = n;
            Calls picked = x -> {
                for (int r = 0; r < number; r++) {
                    x.add(0, r, 1, 2);
                }
                x.plan(0);
                x.pick(2, 1, 1);
            };
            gives("pick of " + n + " rows that become equal", picked, n, n == 0 ? "" : repeat("2 1 1", n));
        }
    }

    /** "DISTINCT: each different row once." */
    private static void distinctEachDifferentRowOnce() {
        gives("rows that differ in one column each", x -> {
            Texts.fill(x, 0, "0 0 0, 0 0 1, 0 1 0, 1 0 0, 0 0 1, 0 1 0, 1 0 0, 0 0 0");
            x.plan(0);
            x.distinct();
        }, 4, "0 0 0, 0 0 1, 0 1 0, 1 0 0");
        for (int c = 0; c < 3; c++) {
            String two = only(c, LEAST) + ", " + only(c, MOST);
            gives("rows that differ in column " + c + " alone", x -> {
                Texts.fill(x, 0, two + ", " + two);
                x.plan(0);
                x.distinct();
            }, 2, two);
        }
        for (int n = 1; n <= 12; n++) {
            int number = n;
            gives(n + " equal rows", x -> {
                Texts.fill(x, 0, repeat("0 0 0", number));
                x.plan(0);
                x.distinct();
            }, 1, "0 0 0");
            StringBuilder rows = new StringBuilder("0 0 -1");
            for (int r = 1; r < n; r++) {
                rows.append(", 0 0 ").append(r);
            }
            gives(n + " different rows", x -> {
                Texts.fill(x, 0, rows.toString());
                x.plan(0);
                x.distinct();
            }, n, rows.toString());
        }
        gives("no rows", x -> {
            x.plan(0);
            x.distinct();
        }, 0, "");
    }

    /** "GROUP (column g, column a): for each value of column g a row of that value" */
    private static void groupEachValue() {
        gives("the outermost values", x -> {
            Texts.fill(x, 0, "2147483647 1 0, -2147483648 2 0, 0 3 0, -1 4 0, 2147483647 5 0, 0 6 0");
            x.plan(0);
            x.group(0, 1);
        }, 4, "-2147483648 2 1, -1 4 1, 0 9 2, 2147483647 6 2");
        for (int n = 0; n <= 12; n++) {
            int number = n;
            StringBuilder due = new StringBuilder();
            for (int r = 0; r < n; r++) {
                due.append(r == 0 ? "" : ", ").append(r).append(" 7 1");
            }
            gives(n + " values", x -> {
                for (int r = 0; r < number; r++) {
                    x.add(0, 9, 7, r);
                }
                x.plan(0);
                x.group(2, 1);
            }, n, due.toString());
        }
    }

    /** "the sum of column a over its rows (wrapping)" */
    private static void groupSumWraps() {
        gives("past the most", x -> {
            Texts.fill(x, 0, "1 2147483647 0, 1 1 0");
            x.plan(0);
            x.group(0, 1);
        }, 1, "1 -2147483648 2");
        gives("past the least", x -> {
            Texts.fill(x, 0, "1 0 -2147483648, 1 0 -1");
            x.plan(0);
            x.group(0, 2);
        }, 1, "1 2147483647 2");
        gives("twice round", x -> {
            Texts.fill(x, 0, repeat("2147483647 0 0", 5));
            x.plan(0);
            x.group(0, 0);
        }, 1, "2147483647 2147483643 5");
        gives("up to the most, not past it", x -> {
            Texts.fill(x, 0, "1 2147483646 0, 1 1 0");
            x.plan(0);
            x.group(0, 1);
        }, 1, "1 2147483647 2");
    }

    /** "and their number" */
    private static void groupNumberOfRows() {
        for (int v : EDGES) {
            for (int n = 1; n <= 12; n++) {
                int number = n;
                gives(n + " rows of the value " + v, x -> {
                    Texts.fill(x, 0, repeat(v + " 1 1", number));
                    x.plan(0);
                    x.group(0, 1);
                }, 1, v + " " + n + " " + n);
            }
        }
        gives("24 rows of one value", x -> {
            Texts.fill(x, 0, repeat("4 1 1", 12));
            Texts.fill(x, 1, repeat("4 1 1", 2));
            x.plan(0);
            x.join(1, 0, 0);
            x.group(0, 1);
        }, 1, "4 48 24");
    }

    /** "with column x of the one equal to column y of the other, a row of column x" */
    private static void joinEqualColumns() {
        for (int column = 0; column < 3; column++) {
            for (int other = 0; other < 3; other++) {
                int p = column;
                int q = other;
                BlindTables x = new BlindTables();
                for (int v : EDGES) {
                    x.add(0, p == 0 ? v : 50, p == 1 ? v : 0, p == 2 ? v : 0);
                    x.add(1, q == 0 ? v : 60, q == 1 ? v : 0, q == 2 ? v : 0);
                }
                x.plan(0);
                x.join(1, p, q);
                Check.due("join of columns " + p + " and " + q, x.run(), EDGES.length);
                for (int r = 0; r < EDGES.length; r++) {
                    int v = EDGES[r];
                    String due = v + " " + ((p == 1 ? v : 0) + (q == 1 ? v : 0))
                        + " " + ((p == 2 ? v : 0) + (q == 2 ? v : 0));
                    String got = x.cell(r, 0) + " " + x.cell(r, 1) + " " + x.cell(r, 2);
                    Check.due("columns " + p + " and " + q + ", row " + r, got, due);
                }
            }
        }
    }

    /** "each row of table t (u rows, as they are when the plan is run)" */
    private static void joinRowsAsTheyAreWhenRun() {
        Calls planned = x -> {
            Texts.fill(x, 0, "1 1 1");
            Texts.fill(x, 1, "1 2 2");
            x.plan(0);
            x.join(1, 0, 0);
        };
        gives("before", planned, 1, "1 3 3");
        gives("a row is added behind the step", x -> {
            planned.on(x);
            x.add(1, 1, 3, 3);
        }, 2, "1 3 3, 1 4 4");
        gives("a batch is run behind the step", x -> {
            planned.on(x);
            x.drop(1);
            x.put(1, 8, 8);
            x.apply(1);
        }, 1, "1 9 9");
        gives("the table is empty by then", x -> {
            planned.on(x);
            x.drop(1);
            x.apply(1);
        }, 0, "");
        gives("also the plan's own table", x -> {
            x.plan(0);
            x.join(0, 0, 0);
            x.add(0, 2, 2, 2);
        }, 1, "2 4 4");
        gives("whole, though the step before has left rows out", x -> {
            Texts.fill(x, 0, "1 1 1, 1 2 2");
            x.plan(0);
            x.filter(1, 1, 1);
            x.join(0, 0, 0);
        }, 2, "1 2 2, 1 3 3");
    }

    /** "the sums (wrapping) of column 1 of both and of column 2 of both" */
    private static void joinSumsWrap() {
        gives("past the most", x -> {
            Texts.fill(x, 0, "1 2147483647 2147483647");
            Texts.fill(x, 1, "1 1 2147483647");
            x.plan(0);
            x.join(1, 0, 0);
        }, 1, "1 -2147483648 -2");
        gives("past the least", x -> {
            Texts.fill(x, 0, "1 -2147483648 -2147483648");
            Texts.fill(x, 1, "1 -1 -2147483648");
            x.plan(0);
            x.join(1, 0, 0);
        }, 1, "1 2147483647 0");
        gives("up to the edge, not past it", x -> {
            Texts.fill(x, 0, "1 2147483646 -2147483647");
            Texts.fill(x, 1, "1 1 -1");
            x.plan(0);
            x.join(1, 0, 0);
        }, 1, "1 2147483647 -2147483648");
    }

    /** A JOIN of n = 0 rows, of u = 0 rows, of rows without a pair: m = 0 is a result like others. */
    private static void joinOfNoRows() {
        for (int n = 0; n <= 12; n += 4) {
            for (int u = 0; u <= 12; u += 4) {
                int left = n;
                int right = u;
                gives("join of " + n + " and " + u + " rows without a pair", x -> {
                    for (int r = 0; r < left; r++) {
                        x.add(0, 2 * r, 0, 0);
                    }
                    for (int r = 0; r < right; r++) {
                        x.add(1, 2 * r + 1, 0, 0);
                    }
                    x.plan(0);
                    x.join(1, 0, 0);
                }, 0, "");
            }
        }
    }

    /** "before each step its rows lie at 0 .. n - 1 (for JOIN those of table t behind them)", and no others */
    private static void joinOfRowsAtPlacesUsedBefore() {
        Calls tables = x -> {
            for (int r = 0; r < 12; r++) {
                x.add(0, r, r, r);
            }
            Texts.fill(x, 1, "1 0 0, 1 1 0, 1 2 0, 1 3 0");
            Texts.fill(x, 2, "1 0 0, 1 4 0, 1 8 0, 1 12 0, 1 16 0, 1 20 0");
        };
        Calls[] earlier = {
            x -> x.filter(0, 2, -1), x -> x.distinct(), x -> x.group(0, 0), x -> x.join(0, 0, 0), x -> x.join(1, 0, 0),
        };
        StringBuilder due = new StringBuilder("1 0 0");
        for (int b = 1; b < 24; b++) {
            due.append(", 1 ").append(b).append(" 0");
        }
        for (int e = 0; e < earlier.length; e++) {
            Calls before = earlier[e];
            gives("24 pairs behind earlier plan " + e, x -> {
                tables.on(x);
                x.plan(0);
                before.on(x);
                x.run();
                x.apply(0);
                x.plan(1);
                x.join(2, 0, 0);
            }, 24, due.toString());
        }
        gives("a smaller join behind it", x -> {
            tables.on(x);
            x.plan(2);
            x.join(1, 0, 0);
            x.run();
            x.plan(1);
            x.join(1, 0, 0);
        }, 16, "1 0 0, 1 1 0, 1 1 0, 1 2 0, 1 2 0, 1 2 0, 1 3 0, 1 3 0, 1 3 0, 1 3 0,"
            + " 1 4 0, 1 4 0, 1 4 0, 1 5 0, 1 5 0, 1 6 0");
    }

    /** Adds, for each pair of numbers, so many rows of one key to table 0, and so many to table 1. */
    private static Calls keys(int... numbers) {
        return x -> {
            for (int key = 0; 2 * key < numbers.length; key++) {
                for (int r = 0; r < numbers[2 * key]; r++) {
                    Check.due("a left row", x.add(0, key, r, 0), true);
                }
                for (int r = 0; r < numbers[2 * key + 1]; r++) {
                    Check.due("a right row", x.add(1, key, 12 * r, 1), true);
                }
            }
            x.plan(0);
            x.join(1, 0, 0);
        };
    }

    private static void pairs(int due, int... numbers) {
        String what = "join of " + Arrays.toString(numbers);
        BlindTables x = Scene.after(keys(numbers));
        Check.due(what, x.run(), due);
        int row = 0;
        for (int key = 0; due >= 0 && 2 * key < numbers.length; key++) {
            int lefts = numbers[2 * key];
            for (int p = 0; p < lefts * numbers[2 * key + 1]; p++) {
                String got = x.cell(row, 0) + " " + x.cell(row, 1) + " " + x.cell(row, 2);
                Check.due(what + ", row " + row, got, key + " " + (p % lefts + 12 * (p / lefts)) + " 1");
                row++;
            }
        }
    }

    /** "m is at most 24" */
    private static void joinAtMost24() {
        pairs(24, 12, 2);
        pairs(24, 2, 12);
        pairs(24, 6, 4);
        pairs(24, 3, 8);
        pairs(24, 4, 4, 2, 2, 4, 1);
        pairs(24, 2, 2, 2, 2, 2, 2, 2, 2, 2, 2, 2, 2);
        pairs(24, 4, 4, 8, 1);
        pairs(24, 0, 3, 12, 2, 0, 7);
        pairs(23, 11, 2, 1, 1);
        pairs(ROOM, 5, 5);
        pairs(ROOM, 11, 2, 1, 3);
        pairs(ROOM, 4, 4, 3, 3);
        pairs(ROOM, 1, 1, 4, 6);
        pairs(ROOM, 3, 7, 0, 2, 4, 1, 5, 0);
        pairs(ROOM, 12, 12);
    }

    /** "otherwise the plan ends with ROOM" */
    private static void joinEndsThePlanWithRoom() {
        Calls tables = x -> {
            Texts.fill(x, 0, "1 0 0, 1 1 0, 1 2 0, 1 3 0, 1 4 0");
            Texts.fill(x, 1, repeat("1 1 1", 5));
            Texts.fill(x, 2, repeat("1 1 1", 12));
            x.plan(0);
        };
        Check.due("in the first step", Scene.after(tables, x -> x.join(1, 0, 0)).run(), ROOM);
        Calls first = x -> {
            x.join(1, 0, 0);
            x.filter(0, 0, 0);
            x.distinct();
        };
        Check.due("though later steps would leave less", Scene.after(tables, first).run(), ROOM);
        Calls second = x -> {
            x.distinct();
            x.join(1, 0, 0);
            x.filter(0, 0, 0);
        };
        Check.due("in the second step", Scene.after(tables, second).run(), ROOM);
        Calls third = x -> {
            x.filter(1, 0, 2);
            x.join(2, 0, 0);
            x.join(2, 0, 0);
        };
        Check.due("in the third step, 24 rows with 12", Scene.after(tables, third).run(), ROOM);
        Calls fits = x -> {
            x.filter(1, 0, 4);
            x.join(1, 0, 0);
            x.filter(1, 0, 9);
        };
        Check.due("no end where there is room", Scene.after(tables, fits).run(), 20);
    }

    /** "The RESULT is what the last step gives [..], ordered." */
    private static void resultIsOrdered() {
        gives("behind a pick", x -> {
            Texts.fill(x, 0, "1 9 0, 2 8 0, 3 7 0, 4 7 -1");
            x.plan(0);
            x.pick(1, 2, 0);
        }, 4, "7 -1 4, 7 0 3, 8 0 2, 9 0 1");
        gives("behind a join", x -> {
            Texts.fill(x, 0, "1 9 9, 1 5 5, 0 9 9");
            Texts.fill(x, 1, "1 1 0, 1 0 7, 0 0 0");
            x.plan(0);
            x.join(1, 0, 0);
        }, 5, "0 9 9, 1 5 12, 1 6 5, 1 9 16, 1 10 9");
    }

    /** "(the table's rows without a step)" */
    private static void resultWithoutAStep() {
        for (int t = 0; t < 3; t++) {
            int table = t;
            for (int n = 0; n <= 12; n++) {
                int number = n;
                StringBuilder due = new StringBuilder();
                for (int r = 0; r < n; r++) {
                    due.append(r == 0 ? "" : ", ").append(r).append(' ').append(t).append(" 5");
                }
                gives("table " + t + " of " + n + " rows", x -> {
                    for (int r = number - 1; r >= 0; r--) {
                        x.add(table, r, table, 5);
                    }
                    x.plan(table);
                }, n, due.toString());
            }
        }
    }

    /** "A BATCH is at most 6 CHANGES" */
    private static void atMostSixChanges() {
        for (int puts = 0; puts <= 6; puts++) {
            int number = puts;
            Calls six = x -> {
                Texts.fill(x, 0, "0 0 0, 3 3 3, 5 5 5");
                for (int n = 0; n < 6; n++) {
                    Check.due("change " + n, n < number ? x.put(n, n, n) : x.drop(n), true);
                }
            };
            Scene.refused("a seventh, a put", x -> x.put(9, 9, 9), six);
            Scene.refused("a seventh, a drop", x -> x.drop(0), six);
        }
    }

    /** "the rows whose column 0 is not a number dropped" */
    private static void dropsByColumn0() {
        Calls rows = x -> Texts.fill(x, 0, "1 2 3, 2147483647 0 1, 2 3 1, -2147483648 1 2, 0 5 5, 1 1 1");
        dropped(rows, LEAST, "0 5 5, 1 1 1, 1 2 3, 2 3 1, 2147483647 0 1");
        dropped(rows, 0, "-2147483648 1 2, 1 1 1, 1 2 3, 2 3 1, 2147483647 0 1");
        dropped(rows, 1, "-2147483648 1 2, 0 5 5, 2 3 1, 2147483647 0 1");
        dropped(rows, 2, "-2147483648 1 2, 0 5 5, 1 1 1, 1 2 3, 2147483647 0 1");
        dropped(rows, MOST, "-2147483648 1 2, 0 5 5, 1 1 1, 1 2 3, 2 3 1");
        dropped(rows, 5, "-2147483648 1 2, 0 5 5, 1 1 1, 1 2 3, 2 3 1, 2147483647 0 1");
        Calls all = x -> {
            for (int number : new int[] {1, 2, LEAST, MOST, 0}) {
                x.drop(number);
            }
        };
        Check.due("all are dropped", Scene.after(rows, all).apply(0), 0);
        Check.due("drops of an empty table", Scene.after(all).apply(0), 0);
        Check.due("nothing is dropped without a drop", Scene.after(rows, x -> x.put(0, 0, 0)).apply(0), 7);
    }

    private static void dropped(Calls rows, int number, String left) {
        Calls once = x -> x.drop(number);
        Calls run = x -> x.apply(0);
        Check.due("drop of " + number, Scene.after(rows, once).apply(0), left.split(", ").length);
        Check.due("drop of " + number, Scene.rows(0, rows, once, run), left);
        Check.due("drop of " + number + " twice", Scene.rows(0, rows, once, once, run), left);
    }

    /** "and the rows that were put (also if their column 0 is dropped)" */
    private static void putsStayThoughDropped() {
        for (int number : EDGES) {
            Calls rows = x -> {
                x.add(0, number, 1, 1);
                x.add(0, number, 2, 2);
            };
            String due = number + " 3 3";
            Calls before = x -> {
                x.put(number, 3, 3);
                x.drop(number);
            };
            Calls behind = x -> {
                x.drop(number);
                x.put(number, 3, 3);
            };
            Check.due("put before the drop", Scene.rows(0, rows, before, x -> x.apply(0)), due);
            Check.due("put behind the drop", Scene.rows(0, rows, behind, x -> x.apply(0)), due);
        }
        Calls equal = x -> {
            x.add(0, 5, 5, 5);
            x.put(5, 5, 5);
            x.drop(5);
            x.put(5, 5, 5);
        };
        Check.due("the row that was there goes, its likes that were put stay", Scene.after(equal).apply(0), 2);
    }

    private static Calls tableOf(int n) {
        return x -> {
            for (int r = 0; r < n; r++) {
                x.add(0, r, r, r);
            }
        };
    }

    private static Calls batch(int puts, int drops) {
        return x -> {
            for (int n = 0; n < puts; n++) {
                x.put(n, 50, 50);
            }
            for (int n = 0; n < drops; n++) {
                x.drop(n);
            }
        };
    }

    /** "at most 12, otherwise ROOM" */
    private static void batchAtMostTwelve() {
        for (int n = 0; n <= 12; n++) {
            for (int puts = 0; puts <= 6; puts++) {
                for (int drops = 0; puts + drops <= 6; drops++) {
                    int left = Math.max(n - drops, 0) + puts;
                    BlindTables x = Scene.after(tableOf(n), batch(puts, drops));
                    String what = n + " rows, " + puts + " puts, " + drops + " drops";
                    Check.due(what, x.apply(0), left <= 12 ? left : ROOM);
                    Check.due(what + ": rows", x.rows(0), left <= 12 ? left : n);
                }
            }
        }
    }

    /** "and the table stays" */
    private static void batchTableStaysBehindRoom() {
        int[][] batches = {{1, 0}, {6, 0}, {2, 1}, {4, 2}, {4, 3}, {5, 1}};
        for (int[] b : batches) {
            Calls full = tableOf(12);
            Calls run = x -> x.apply(0);
            Check.due("a batch without room", Scene.after(full, batch(b[0], b[1])).apply(0), ROOM);
            Check.due("the rows stay", Scene.rows(0, full, batch(b[0], b[1]), run), Scene.rows(0, full));
            Check.due("the sum stays", Scene.after(full, batch(b[0], b[1]), run).sum(0), Scene.after(full).sum(0));
        }
        Calls others = x -> {
            Texts.fill(x, 1, "1 1 1, 0 0 0");
            Texts.fill(x, 2, "2 2 2");
        };
        Calls run = x -> x.apply(0);
        Check.due("other tables stay", Scene.rows(1, tableOf(12), others, batch(4, 2), run), "0 0 0, 1 1 1");
        Check.due("other tables stay", Scene.rows(2, tableOf(12), others, batch(4, 2), run), "2 2 2");
    }
}
