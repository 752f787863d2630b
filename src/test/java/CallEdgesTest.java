import java.util.function.Predicate;
import java.util.function.ToIntFunction;

/**
 * The bounds that the promises name: a test for each of their sentences. Where a call is refused, the
 * whole state, the plan's and the batch's too, is the one of an object on which it was not made.
 */
public final class CallEdgesTest {
    private static final int NONE = BlindTables.NONE;
    private static final int ROOM = BlindTables.ROOM;
    private static final int LEAST = Integer.MIN_VALUE;
    private static final int MOST = Integer.MAX_VALUE;
    private static final int[] NO_NUMBER = {LEAST, -1, 3, MOST};
    private static final Calls RUN = BlindTables::run;

    public static void main(String[] args) {
        newEmptyTables();
        newNoPlan();
        newNoBatch();
        newNoResultAndNoTrace();
        objectsAreApart();
        addNoSuchTable();
        addTwelveAreThere();
        rowsOfATable();
        rowsNoSuchTable();
        planWithoutSteps();
        planNoSuchTable();
        stepsWithoutAPlan();
        stepsBehindThree();
        filterNumberNotAsSaid();
        filterEveryNumberAsSaid();
        pickNumberNotAsSaid();
        groupNumberNotAsSaid();
        joinNumberNotAsSaid();
        pickGroupJoinEveryNumberAsSaid();
        stepsShowNothingBeforeARun();
        runPlanStays();
        runWithoutSteps();
        runWithoutAPlan();
        runRoomNoResult();
        putSixAreThere();
        dropSixAreThere();
        changesShowNothingBeforeApply();
        applyAnEmptyBatch();
        applyNoChangesAfterwards();
        applyRoom();
        applyNoSuchTable();
        applyResultStays();
        cellOfTheLatestRun();
        cellWhenThereIsNone();
        lengthOfTheLatestRun();
        lengthWhenThereWasNone();
        accessOfThatTrace();
        accessWhenThereIsNone();
        sumWraps();
        sumNoSuchTable();
        Check.end();
    }

    private static void refusedEverywhere(String what, Predicate<BlindTables> call) {
        for (int s = 0; s < Scene.ALL.length; s++) {
            Scene.refused(what + ", scene " + s, call, Scene.ALL[s]);
        }
    }

    private static void unchangedEverywhere(String what, ToIntFunction<BlindTables> call, int answer) {
        for (int s = 0; s < Scene.ALL.length; s++) {
            Scene.unchanged(what + ", scene " + s, call, answer, Scene.ALL[s]);
        }
    }

    /** 1: "Empty tables" */
    private static void newEmptyTables() {
        for (int t = 0; t < 3; t++) {
            Check.due("rows of a new table", Scene.after().rows(t), 0);
            Check.due("sum of a new table", Scene.after().sum(t), 0);
            int table = t;
            Check.due("run of a new table", Scene.after(x -> x.plan(table)).run(), 0);
            Check.due("apply to a new table", Scene.after().apply(t), 0);
        }
    }

    /** 1: "no plan" */
    private static void newNoPlan() {
        Scene.unchanged("run of a new object", BlindTables::run, NONE);
        Scene.refused("filter of a new object", x -> x.filter(0, 0, 0));
        Scene.refused("pick of a new object", x -> x.pick(0, 0, 0));
        Scene.refused("distinct of a new object", x -> x.distinct());
        Scene.refused("group of a new object", x -> x.group(0, 0));
        Scene.refused("join of a new object", x -> x.join(0, 0, 0));
    }

    /** 1: "no batch" */
    private static void newNoBatch() {
        BlindTables x = new BlindTables();
        for (int n = 0; n < 6; n++) {
            Check.due("change " + n, x.put(n, n, n), true);
        }
        Check.due("the seventh", x.put(6, 6, 6), false);
        Calls rows = y -> Texts.fill(y, 0, "0 0 0, 1 1 1");
        Check.due("apply without a change", Scene.after(rows).apply(0), 2);
        Check.due("the table of it", Scene.rows(0, rows, y -> y.apply(0)), "0 0 0, 1 1 1");
    }

    /** 14, 15, 16: "0 when there is none", "0 when there was none", "NONE when there is none" */
    private static void newNoResultAndNoTrace() {
        Check.due("the result of a new object", Texts.result(new BlindTables(), 1), "0 0 0");
        Check.due("the length of a new object", new BlindTables().length(), 0);
        Check.due("the access of a new object", new BlindTables().access(0), NONE);
    }

    /** 1: each object has tables, a plan and a batch of its own */
    private static void objectsAreApart() {
        BlindTables x = new BlindTables();
        BlindTables y = new BlindTables();
        Scene.BUSY.on(x);
        Check.due("another object's rows", y.rows(0), 0);
        Check.due("another object's plan", y.run(), NONE);
        Check.due("another object's batch", y.apply(0), 0);
        Check.due("another object's result", y.cell(0, 0), 0);
        Check.due("another object's trace", y.length(), 0);
    }

    /** 2: "false, changing nothing, when there is no such table" */
    private static void addNoSuchTable() {
        for (int t : NO_NUMBER) {
            refusedEverywhere("add to table " + t, x -> x.add(t, 1, 2, 3));
        }
    }

    /** 2: "or 12 are there" */
    private static void addTwelveAreThere() {
        for (int t = 0; t < 3; t++) {
            int table = t;
            BlindTables x = new BlindTables();
            for (int r = 1; r <= 12; r++) {
                Check.due("add of row " + r, x.add(t, r, r, r), true);
                Check.due("rows with row " + r, x.rows(t), r);
            }
            Scene.refused("add of a 13th row", y -> y.add(table, 1, 2, 3), Scene.FULL);
            Calls dropped = y -> {
                y.drop(0);
                y.apply(table);
            };
            Calls full = y -> {
                for (int r = 0; r < 12; r++) {
                    y.add(table, r, r, r);
                }
            };
            Check.due("add when a row is gone again", Scene.after(full, dropped).add(t, 1, 2, 3), true);
            Calls added = y -> y.add(table, 1, 2, 3);
            Scene.refused("add when it is there again", y -> y.add(table, 1, 2, 3), full, dropped, added);
        }
    }

    /** 3: "How many rows table t has" */
    private static void rowsOfATable() {
        for (int t = 0; t < 3; t++) {
            for (int n = 0; n <= 12; n++) {
                BlindTables x = new BlindTables();
                for (int r = 0; r < n; r++) {
                    x.add(t, 1, 1, 1);
                }
                for (int other = 0; other < 3; other++) {
                    Check.due("rows(" + other + ")", x.rows(other), other == t ? n : 0);
                }
            }
            int table = t;
            Scene.unchanged("rows of a full table", x -> x.rows(table), 12, Scene.FULL);
        }
    }

    /** 3: "NONE when there is no such table" */
    private static void rowsNoSuchTable() {
        for (int t : NO_NUMBER) {
            unchangedEverywhere("rows of table " + t, x -> x.rows(t), NONE);
        }
    }

    /** 4: "A new plan, without steps, on table t" */
    private static void planWithoutSteps() {
        for (Calls scene : Scene.ALL) {
            for (int t = 0; t < 3; t++) {
                int table = t;
                Check.due("plan(" + t + ")", Scene.after(scene).plan(t), true);
                BlindTables x = Scene.after(scene, y -> y.plan(table));
                Check.due("a new plan's rows", x.run(), x.rows(t));
                BlindTables y = Scene.after(scene, z -> z.plan(table));
                for (int s = 0; s < 3; s++) {
                    Check.due("a new plan's step " + s, y.distinct(), true);
                }
                Check.due("a new plan's fourth step", y.distinct(), false);
                Calls plan = z -> z.plan(table);
                Check.due("what shows behind plan", Scene.answers(scene, plan), Scene.answers(scene));
            }
        }
    }

    /** 4: "false, changing nothing, when there is no such table" */
    private static void planNoSuchTable() {
        for (int t : NO_NUMBER) {
            refusedEverywhere("plan on table " + t, x -> x.plan(t));
        }
    }

    /** 5: "False, changing nothing, when there is no plan" (likewise 6 .. 9) */
    private static void stepsWithoutAPlan() {
        for (Calls scene : new Calls[] {Scene.NEW, Scene.WITHOUT_PLAN}) {
            Scene.refused("filter without a plan", x -> x.filter(0, 0, 0), scene);
            Scene.refused("pick without a plan", x -> x.pick(0, 1, 2), scene);
            Scene.refused("distinct without a plan", x -> x.distinct(), scene);
            Scene.refused("group without a plan", x -> x.group(0, 1), scene);
            Scene.refused("join without a plan", x -> x.join(0, 1, 2), scene);
            Calls tried = x -> {
                x.filter(0, 0, 0);
                x.pick(0, 0, 0);
                x.distinct();
                x.group(0, 0);
                x.join(0, 0, 0);
                x.plan(0);
            };
            String untried = Scene.state(scene, x -> x.plan(0));
            Check.due("what was tried is in no later plan", Scene.state(scene, tried), untried);
        }
    }

    /** 5: "three steps are there" (likewise 6 .. 9) */
    private static void stepsBehindThree() {
        Scene.refused("filter behind three steps", x -> x.filter(0, 0, 0), Scene.FULL);
        Scene.refused("pick behind three steps", x -> x.pick(0, 0, 0), Scene.FULL);
        Scene.refused("distinct behind three steps", x -> x.distinct(), Scene.FULL);
        Scene.refused("group behind three steps", x -> x.group(0, 0), Scene.FULL);
        Scene.refused("join behind three steps", x -> x.join(0, 0, 0), Scene.FULL);
        Check.due("a third filter", Scene.after(Scene.BUSY).filter(0, 0, 0), true);
        Check.due("a third pick", Scene.after(Scene.BUSY).pick(0, 0, 0), true);
        Check.due("a third distinct", Scene.after(Scene.BUSY).distinct(), true);
        Check.due("a third group", Scene.after(Scene.BUSY).group(0, 0), true);
        Check.due("a third join", Scene.after(Scene.BUSY).join(0, 0, 0), true);
        Check.due("a third one behind ROOM", Scene.after(Scene.BEHIND_ROOM).distinct(), true);
    }

    /** 5: "or a number is not as said": column c, op */
    private static void filterNumberNotAsSaid() {
        for (int n : NO_NUMBER) {
            refusedEverywhere("filter of column " + n, x -> x.filter(n, 0, 0));
            refusedEverywhere("filter of op " + n, x -> x.filter(0, n, 0));
        }
    }

    /** 5: x is any number */
    private static void filterEveryNumberAsSaid() {
        for (int c = 0; c < 3; c++) {
            for (int op = 0; op < 3; op++) {
                for (int x : new int[] {LEAST, -1, 0, 3, MOST}) {
                    Check.due("filter", Scene.after(y -> y.plan(0)).filter(c, op, x), true);
                }
            }
        }
    }

    /** 6: "likewise": columns a, b, c */
    private static void pickNumberNotAsSaid() {
        for (int n : NO_NUMBER) {
            refusedEverywhere("pick of column a, " + n, x -> x.pick(n, 0, 0));
            refusedEverywhere("pick of column b, " + n, x -> x.pick(0, n, 0));
            refusedEverywhere("pick of column c, " + n, x -> x.pick(0, 0, n));
        }
    }

    /** 8: "likewise": columns g, a */
    private static void groupNumberNotAsSaid() {
        for (int n : NO_NUMBER) {
            refusedEverywhere("group of column g, " + n, x -> x.group(n, 0));
            refusedEverywhere("group of column a, " + n, x -> x.group(0, n));
        }
    }

    /** 9: "likewise": table t, columns x, y */
    private static void joinNumberNotAsSaid() {
        for (int n : NO_NUMBER) {
            refusedEverywhere("join of table " + n, x -> x.join(n, 0, 0));
            refusedEverywhere("join of column x, " + n, x -> x.join(0, n, 0));
            refusedEverywhere("join of column y, " + n, x -> x.join(0, 0, n));
        }
    }

    /** 6 .. 9: 0 .. 2 are all as said */
    private static void pickGroupJoinEveryNumberAsSaid() {
        Calls plan = x -> x.plan(0);
        for (int n = 0; n < 27; n++) {
            Check.due("pick", Scene.after(plan).pick(n / 9, n / 3 % 3, n % 3), true);
            Check.due("group", Scene.after(plan).group(n / 3 % 3, n % 3), true);
            Check.due("join", Scene.after(plan).join(n / 9, n / 3 % 3, n % 3), true);
        }
        Check.due("distinct", Scene.after(plan).distinct(), true);
    }

    /** 5 .. 9: "Puts a FILTER at the plan's end", and no more */
    private static void stepsShowNothingBeforeARun() {
        Calls[] steps = {
            x -> x.filter(0, 0, 0), x -> x.pick(2, 2, 2), x -> x.distinct(), x -> x.group(1, 1), x -> x.join(0, 0, 0),
        };
        for (int s = 0; s < steps.length; s++) {
            for (Calls scene : new Calls[] {Scene.BUSY, Scene.BEHIND_ROOM}) {
                Check.due("what shows behind step " + s, Scene.answers(scene, steps[s]), Scene.answers(scene));
                Calls apply = x -> x.apply(0);
                String batch = Scene.answers(scene, apply);
                Check.due("the batch behind step " + s, Scene.answers(scene, steps[s], apply), batch);
            }
        }
    }

    /** 10: "Runs the plan, which stays" */
    private static void runPlanStays() {
        for (Calls scene : new Calls[] {Scene.BUSY, Scene.FULL, Scene.BEHIND_ROOM}) {
            int answer = Scene.after(scene).run();
            Scene.unchanged("a second run", BlindTables::run, answer, scene, RUN);
            Calls apply = x -> x.apply(2);
            Check.due("tables behind a run", Scene.rows(0, scene, RUN), Scene.rows(0, scene));
            Check.due("tables behind a run", Scene.rows(1, scene, RUN), Scene.rows(1, scene));
            Check.due("the batch behind a run", Scene.rows(2, scene, RUN, apply), Scene.rows(2, scene, apply));
        }
        Calls roomAgain = x -> {
            x.put(7, 5, 5);
            x.drop(7);
            x.apply(0);
        };
        Check.due("the plan stays behind ROOM", Scene.after(Scene.BEHIND_ROOM).run(), ROOM);
        Check.due("and fits when there is room", Scene.after(Scene.BEHIND_ROOM, roomAgain).run(), 2);
        Check.due("with all its steps", Scene.result(2, Scene.BEHIND_ROOM, roomAgain, RUN), "1 2 2, 7 10 10");
        Calls more = x -> {
            RUN.on(x);
            x.group(0, 1);
        };
        Check.due("steps can be put behind a run", Scene.after(Scene.BUSY, more).run(), 2);
        Check.due("and are run with the others", Scene.result(2, Scene.BUSY, more, RUN), "1 49 3, 2 24 1");
    }

    /** 10: "(without steps its result is the table's rows)" */
    private static void runWithoutSteps() {
        Calls rows = x -> {
            Texts.fill(x, 1, "3 1 1, 1 2 2, 3 1 1, 1 2 1");
            x.plan(1);
        };
        Check.due("run without steps", Scene.after(rows).run(), 4);
        Check.due("its result", Scene.result(5, rows, RUN), "1 2 1, 1 2 2, 3 1 1, 3 1 1, 0 0 0");
        Check.due("run of an empty table", Scene.after(x -> x.plan(2)).run(), 0);
    }

    /** 10: "NONE, changing nothing, when there is no plan" */
    private static void runWithoutAPlan() {
        Scene.unchanged("run of a new object", BlindTables::run, NONE, Scene.NEW);
        Scene.unchanged("run without a plan", BlindTables::run, NONE, Scene.WITHOUT_PLAN);
        Check.due("the batch's trace stays", Scene.trace(Scene.WITHOUT_PLAN, RUN), "R0 W0");
    }

    /** 10: "ROOM: then there is no result (nor the one before)" */
    private static void runRoomNoResult() {
        Calls fits = x -> {
            Texts.fill(x, 0, "7 0 0, 7 1 1, 7 2 2, 7 3 3, 7 4 4");
            x.plan(0);
            x.run();
        };
        Calls tooMany = x -> {
            x.join(0, 0, 0);
            x.run();
        };
        Check.due("a result before", Scene.result(2, fits), "7 0 0, 7 1 1");
        Check.due("the answer", Scene.after(fits, tooMany).run(), ROOM);
        for (int r = 0; r < 25; r++) {
            for (int c = 0; c < 3; c++) {
                Check.due("cell(" + r + ", " + c + ") behind ROOM", Scene.after(fits, tooMany).cell(r, c), 0);
            }
        }
        Check.due("nor behind a batch", Scene.after(fits, tooMany, x -> x.apply(0)).cell(1, 0), 0);
        Calls again = x -> {
            x.plan(0);
            x.run();
        };
        Check.due("a result again", Scene.result(6, fits, tooMany, again), "7 0 0, 7 1 1, 7 2 2, 7 3 3, 7 4 4, 0 0 0");
        Check.due("the table stays", Scene.rows(0, fits, tooMany), Scene.rows(0, fits));
    }

    /** 11: "false, changing nothing, when six changes are there" */
    private static void putSixAreThere() {
        for (int drops = 0; drops <= 6; drops++) {
            int number = drops;
            Calls five = x -> changes(x, number, 5);
            Calls six = x -> changes(x, number, 6);
            Check.due("a sixth change, a put", Scene.after(five).put(1, 1, 1), true);
            Scene.refused("a seventh change, a put", x -> x.put(1, 1, 1), six);
        }
        Scene.refused("a put to a full batch", x -> x.put(LEAST, 0, MOST), Scene.FULL);
    }

    /** 12: "false, changing nothing, when six changes are there" */
    private static void dropSixAreThere() {
        for (int drops = 0; drops <= 6; drops++) {
            int number = drops;
            Calls five = x -> changes(x, number, 5);
            Calls six = x -> changes(x, number, 6);
            Check.due("a sixth change, a drop", Scene.after(five).drop(1), true);
            Scene.refused("a seventh change, a drop", x -> x.drop(1), six);
        }
        Scene.refused("a drop to a full batch", x -> x.drop(5), Scene.FULL);
    }

    /** Terms: "put together before it is run on a table" */
    private static void changesShowNothingBeforeApply() {
        Calls[] changes = {x -> x.put(1, 1, 1), x -> x.drop(7), x -> x.drop(1)};
        for (int c = 0; c < changes.length; c++) {
            for (Calls scene : new Calls[] {Scene.NEW, Scene.WITHOUT_PLAN, Scene.BUSY, Scene.BEHIND_ROOM}) {
                Check.due("what shows behind change " + c, Scene.answers(scene, changes[c]), Scene.answers(scene));
                String plan = Scene.answers(scene, RUN);
                Check.due("the plan behind change " + c, Scene.answers(scene, changes[c], RUN), plan);
            }
        }
    }

    private static void changes(BlindTables x, int drops, int all) {
        Texts.fill(x, 0, "1 1 1, 5 5 5");
        for (int n = 0; n < all; n++) {
            Check.due("change " + n, n < drops ? x.drop(10 + n) : x.put(20 + n, 0, 0), true);
        }
    }

    /** 13: "Runs the batch (an empty one, too) on table t" */
    private static void applyAnEmptyBatch() {
        for (int n = 0; n <= 12; n++) {
            int number = n;
            Calls rows = x -> {
                for (int r = 0; r < number; r++) {
                    x.add(1, r / 2, r % 3, 5);
                }
            };
            Calls run = x -> x.apply(1);
            DueTrace due = new DueTrace();
            due.batch(n, 0);
            Check.due("an empty batch on " + n + " rows", Scene.after(rows).apply(1), n);
            Check.due("the table behind it", Scene.rows(1, rows, run), Scene.rows(1, rows));
            Check.due("its trace", Scene.trace(rows, run), Texts.trace(due));
        }
    }

    /** 13: "afterwards, also behind ROOM, there are no changes in it any more" */
    private static void applyNoChangesAfterwards() {
        for (int t = 0; t < 3; t++) {
            int table = t;
            Calls run = x -> x.apply(table);
            Check.due("the answer", Scene.after(Scene.FULL).apply(t), 9);
            noChangesLeft("a batch on table " + t, Scene.FULL, run);
            Calls room = x -> {
                for (int r = 0; r < 12; r++) {
                    x.add(table, r, r, r);
                }
                x.put(1, 1, 1);
                x.put(2, 2, 2);
                x.drop(3);
                x.put(4, 4, 4);
            };
            Check.due("the answer", Scene.after(room).apply(t), ROOM);
            noChangesLeft("a batch without room on table " + t, room, run);
        }
    }

    private static void noChangesLeft(String what, Calls... calls) {
        for (int t = 0; t < 3; t++) {
            BlindTables x = Scene.after(calls);
            int rows = x.rows(t);
            int sum = x.sum(t);
            Check.due("an empty one behind " + what, x.apply(t), rows);
            Check.due("the sum behind " + what, x.sum(t), sum);
            DueTrace due = new DueTrace();
            due.batch(rows, 0);
            Check.due("the length behind " + what, x.length(), due.length());
        }
        BlindTables x = Scene.after(calls);
        for (int n = 0; n < 6; n++) {
            Check.due("room behind " + what, n % 2 == 0 ? x.put(n, n, n) : x.drop(n), true);
        }
        Check.due("a seventh behind " + what, x.put(7, 7, 7), false);
    }

    /** 13: "Answers how many rows the table has now; ROOM" */
    private static void applyRoom() {
        Calls eleven = x -> {
            for (int r = 0; r < 11; r++) {
                x.add(2, r, r, r);
            }
        };
        Calls put = x -> x.put(50, 50, 50);
        Calls run = x -> x.apply(2);
        Check.due("the 12th row by a batch", Scene.after(eleven, put).apply(2), 12);
        Check.due("rows then", Scene.after(eleven, put, run).rows(2), 12);
        Check.due("the 13th row by a batch", Scene.after(eleven, put, put).apply(2), ROOM);
        Check.due("rows then", Scene.after(eleven, put, put, run).rows(2), 11);
        Check.due("one for one", Scene.after(eleven, put, put, x -> x.drop(4)).apply(2), 12);
        Check.due("two of three dropped, one put", Scene.after(Scene.BUSY).apply(0), 2);
    }

    /** 13: "NONE, changing nothing, when there is no such table" */
    private static void applyNoSuchTable() {
        for (int t : NO_NUMBER) {
            unchangedEverywhere("apply to table " + t, x -> x.apply(t), NONE);
        }
    }

    /** 13: "(The result of a plan that was run before stays.)" */
    private static void applyResultStays() {
        for (int t = 0; t < 3; t++) {
            int table = t;
            for (Calls scene : Scene.ALL) {
                Calls run = x -> x.apply(table);
                Check.due("the result behind a batch", Scene.result(25, scene, run), Scene.result(25, scene));
            }
        }
        Calls room = x -> {
            x.put(1, 1, 1);
            x.apply(0);
            x.put(1, 1, 1);
        };
        Calls full = x -> {
            for (int r = 0; r < 11; r++) {
                x.add(0, r, r, r);
            }
            x.plan(0);
            x.run();
        };
        Check.due("a batch without room", Scene.after(full, room).apply(0), ROOM);
        Check.due("the result behind it", Scene.result(25, full, room, x -> x.apply(0)), Scene.result(25, full));
    }

    /** 14: "Column c of row r of the result of the latest run of a plan" */
    private static void cellOfTheLatestRun() {
        Calls rows = x -> {
            Texts.fill(x, 0, "1 2 3, 4 5 6, 7 8 9");
            Texts.fill(x, 1, "-1 -2 -3");
            x.plan(0);
            x.run();
        };
        Check.due("the result", Scene.result(4, rows), "1 2 3, 4 5 6, 7 8 9, 0 0 0");
        Check.due("not of a plan that was not run", Scene.result(1, rows, x -> x.plan(1)), "1 2 3");
        Check.due("not of a row that was added", Scene.result(1, rows, x -> x.add(0, 0, 0, 0)), "1 2 3");
        Calls other = x -> {
            x.plan(1);
            x.run();
        };
        Check.due("the later and shorter one", Scene.result(3, rows, other), "-1 -2 -3, 0 0 0, 0 0 0");
        Check.due("the last of 24 rows", Scene.after(twentyFour(), RUN).cell(23, 1), 23);
    }

    private static Calls twentyFour() {
        return x -> {
            for (int r = 0; r < 12; r++) {
                x.add(0, 1, 2 * r, 1);
            }
            Texts.fill(x, 1, "1 0 1, 1 1 1");
            x.plan(0);
            x.join(1, 0, 0);
        };
    }

    /** 14: "0 when there is none" */
    private static void cellWhenThereIsNone() {
        for (int n : NO_NUMBER) {
            unchangedEverywhere("cell of column " + n, x -> x.cell(0, n), 0);
        }
        for (int r : new int[] {LEAST, -1, 24, 25, MOST}) {
            unchangedEverywhere("cell of row " + r, x -> x.cell(r, 0), 0);
        }
        for (int r : new int[] {-1, 24, 25, 36, MOST}) {
            Check.due("cell past 24 rows", Scene.after(twentyFour(), RUN).cell(r, 0), 0);
        }
        Calls one = x -> {
            x.add(0, 5, 5, 5);
            x.plan(0);
        };
        Check.due("before the run", Scene.result(1, one), "0 0 0");
        Check.due("of the row behind the last", Scene.result(2, one, RUN), "5 5 5, 0 0 0");
        Check.due("of an empty result", Scene.result(1, one, RUN, x -> x.filter(0, 0, 0), RUN), "0 0 0");
    }

    /** 15: "the trace of the latest run (of a plan or a batch)" */
    private static void lengthOfTheLatestRun() {
        Calls rows = x -> {
            Texts.fill(x, 0, "1 0 0, 2 0 0, 3 0 0");
            x.plan(0);
        };
        Calls batch = x -> x.apply(0);
        Check.due("of a plan", Scene.after(rows, RUN).length(), 12);
        Check.due("of a batch", Scene.after(rows, batch).length(), 30);
        Check.due("of a batch behind a plan", Scene.after(rows, RUN, batch).length(), 30);
        Check.due("of a plan behind a batch", Scene.after(rows, batch, RUN).length(), 12);
        Check.due("of a run without rows", Scene.after(rows, RUN, x -> x.plan(1), RUN).length(), 0);
        Check.due("of a batch on no rows", Scene.after(rows, RUN, x -> x.apply(1)).length(), 0);
        Check.due("not of an apply to no table", Scene.after(rows, RUN, x -> x.apply(3)).length(), 12);
        Check.due("not of a run without a plan", Scene.after(Scene.WITHOUT_PLAN, RUN).length(), 2);
        Calls most = x -> {
            for (int r = 0; r < 12; r++) {
                x.add(0, r / 2, r, r);
                x.add(1, r / 2, r, r);
                x.add(2, r, r, r);
            }
            x.plan(0);
            x.join(1, 0, 0);
            x.join(2, 0, 0);
            x.join(2, 0, 0);
        };
        DueTrace due = new DueTrace();
        due.join(12, 12, 24);
        due.join(24, 12, 24);
        due.join(24, 12, 24);
        due.sort(0, 24);
        Check.due("of the longest trace", Scene.after(most, RUN).length(), due.length());
        Check.due("the longest trace", Scene.trace(most, RUN), Texts.trace(due));
        Check.due("behind its end", Scene.after(most, RUN).access(due.length()), NONE);
    }

    /** 15: "0 when there was none" */
    private static void lengthWhenThereWasNone() {
        Check.due("new", new BlindTables().length(), 0);
        Calls noRun = x -> {
            x.add(0, 1, 1, 1);
            x.add(0, 2, 2, 2);
            x.run();
            x.plan(0);
            x.distinct();
            x.put(1, 1, 1);
            x.apply(-1);
            x.apply(3);
        };
        Check.due("before a first run", Scene.after(noRun).length(), 0);
    }

    /** 16: "The k-th access (from 0 on) of that trace: 2 p for R p, 2 p + 1 for W p" */
    private static void accessOfThatTrace() {
        Calls pair = x -> {
            x.add(0, 1, 1, 1);
            x.add(0, 2, 2, 2);
            x.plan(0);
            x.run();
        };
        int[] due = {0, 2, 1, 3};
        for (int k = 0; k < due.length; k++) {
            int at = k;
            Scene.unchanged("access(" + k + ")", x -> x.access(at), due[k], pair);
        }
        BlindTables x = Scene.after(twentyFour(), RUN);
        int greatest = 0;
        for (int k = 0; k < x.length(); k++) {
            greatest = Math.max(greatest, Scene.after(twentyFour(), RUN).access(k));
        }
        Check.due("a write to the last of 24 places behind 40", greatest, 2 * 63 + 1);
    }

    /** 16: "NONE when there is none" */
    private static void accessWhenThereIsNone() {
        for (int k : new int[] {LEAST, -1, 20000, MOST}) {
            unchangedEverywhere("access(" + k + ")", x -> x.access(k), NONE);
        }
        for (Calls scene : Scene.ALL) {
            int length = Scene.after(scene).length();
            Scene.unchanged("the access behind the last", x -> x.access(length), NONE, scene);
            Scene.unchanged("the next", x -> x.access(length + 1), NONE, scene);
            Check.due("the last is there", length == 0 || Scene.after(scene).access(length - 1) >= 0, true);
        }
        Calls shorter = x -> {
            x.plan(2);
            x.run();
        };
        Check.due("none of the longer trace before", Scene.after(Scene.BUSY, shorter).access(4), NONE);
    }

    /** 17: "of all its rows, 31 * (31 * column 0 + column 1) + column 2 (wrapping)" */
    private static void sumWraps() {
        int[][] rows = {
            {1, 0, 0, 961}, {0, 1, 0, 31}, {0, 0, 1, 1}, {-1, 0, 0, -961},
            {2234634, 0, 0, 2147483274}, {2234635, 0, 0, -2147483061},
            {LEAST, 0, 0, LEAST}, {0, LEAST, 0, LEAST}, {0, 0, LEAST, LEAST},
            {MOST, 0, 0, MOST - 960}, {0, MOST, 0, MOST - 30}, {0, 0, MOST, MOST},
        };
        for (int[] row : rows) {
            Check.due("sum of one row", Scene.after(x -> x.add(1, row[0], row[1], row[2])).sum(1), row[3]);
        }
        Calls two = x -> Texts.fill(x, 0, "0 0 2147483647, 0 0 1");
        Check.due("the rows' sum wraps", Scene.after(two).sum(0), LEAST);
        Check.due("of its own rows alone", Scene.after(two).sum(1), 0);
        Calls equal = x -> Texts.fill(x, 2, "1 1 1, 1 1 1, 1 1 1");
        Check.due("equal rows count as often", Scene.after(equal).sum(2), 3 * 993);
        Check.due("of no rows", Scene.after(equal, x -> x.drop(1), x -> x.apply(2)).sum(2), 0);
        Scene.unchanged("sum", x -> x.sum(2), 3 * 993, equal);
    }

    /** 17: "0 when there is no such table" */
    private static void sumNoSuchTable() {
        for (int t : NO_NUMBER) {
            unchangedEverywhere("sum of table " + t, x -> x.sum(t), 0);
        }
    }
}
