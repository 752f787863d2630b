import java.util.Arrays;
import java.util.function.Predicate;
import java.util.function.ToIntFunction;

/**
 * Looks at objects on which a run of calls was made. For each look the run is made anew on another
 * object, so that looks don't disturb each other, and no object comes past its 512th call.
 */
final class Scene {
    private static final int ASKED_OF_ONE = 350;

    /** Nothing was called. */
    static final Calls NEW = x -> { };

    /** Rows, a trace and a batch, but no plan and no result. */
    static final Calls WITHOUT_PLAN = x -> {
        Texts.fill(x, 0, "4 5 6, 1 2 3, 4 5 6");
        Texts.fill(x, 1, "4 1 1");
        x.put(8, 8, 8);
        x.apply(2);
        x.put(9, 9, 9);
        x.drop(4);
    };

    /** A plan of two steps with a result, behind it the trace of a batch, and a new batch of two changes. */
    static final Calls BUSY = x -> {
        Texts.fill(x, 0, "1 10 100, 2 20 200, 1 11 101");
        Texts.fill(x, 1, "1 5 7, 1 6 8, 3 1 1, 2 4 4");
        x.plan(0);
        x.join(1, 0, 0);
        x.filter(1, 2, 15);
        x.run();
        x.put(6, 6, 6);
        x.put(7, 7, 7);
        x.apply(2);
        x.drop(1);
        x.put(1, 2, 3);
    };

    /** The most of everything: rows of each table, steps, changes. */
    static final Calls FULL = x -> {
        for (int t = 0; t < 3; t++) {
            for (int r = 0; r < 12; r++) {
                x.add(t, r / 2, -r, t);
            }
        }
        x.plan(1);
        x.join(0, 0, 0);
        x.distinct();
        x.pick(1, 0, 2);
        x.run();
        for (int n = 0; n < 3; n++) {
            x.drop(n);
            x.put(n, n, n);
        }
    };

    /** A run has ended with ROOM, behind one that had a result; the plan has two steps. */
    static final Calls BEHIND_ROOM = x -> {
        Texts.fill(x, 0, "7 0 0, 7 1 1, 7 2 2, 7 3 3, 7 4 4");
        x.plan(0);
        x.run();
        x.distinct();
        x.join(0, 0, 0);
        x.put(1, 1, 1);
        x.run();
    };

    static final Calls[] ALL = {NEW, WITHOUT_PLAN, BUSY, FULL, BEHIND_ROOM};

    private Scene() {
    }

    static BlindTables after(Calls... calls) {
        BlindTables x = new BlindTables();
        for (Calls part : calls) {
            part.on(x);
        }
        return x;
    }

    private static Calls[] with(Calls[] calls, Calls last) {
        Calls[] longer = Arrays.copyOf(calls, calls.length + 1);
        longer[calls.length] = last;
        return longer;
    }

    static String trace(Calls... calls) {
        StringBuilder text = new StringBuilder();
        BlindTables x = after(calls);
        int length = x.length();
        for (int k = 0; k < length; k++) {
            if (k % ASKED_OF_ONE == 0) {
                x = after(calls);
            }
            text.append(k == 0 ? "" : " ").append(Texts.access(x.access(k)));
        }
        return text.toString();
    }

    /** All that can be asked for: the tables' rows and sums, the result and a little more, the trace. */
    static String answers(Calls... calls) {
        StringBuilder text = new StringBuilder();
        BlindTables x = after(calls);
        for (int t = 0; t < 3; t++) {
            text.append(x.rows(t)).append(" rows of sum ").append(x.sum(t)).append("; ");
        }
        text.append("result ").append(Texts.result(x, 26));
        return text.append("; trace ").append(trace(calls)).append('\n').toString();
    }

    /** The rows of a table, by a plan of its own. */
    static String rows(int t, Calls... calls) {
        BlindTables x = after(calls);
        x.plan(t);
        return Texts.result(x, x.run());
    }

    /** The rows of a result, after calls whose last one is a run with so many rows. */
    static String result(int number, Calls... calls) {
        return Texts.result(after(calls), number);
    }

    /** What shows outside and what lies inside: the plan and batch, by what comes of them and their room. */
    static String state(Calls... calls) {
        StringBuilder text = new StringBuilder("now: ").append(answers(calls));
        for (int t = 0; t < 3; t++) {
            int table = t;
            text.append("table ").append(t).append(": ").append(rows(t, calls)).append('\n');
            text.append("the batch on it: ").append(after(calls).apply(t)).append(", ");
            text.append(answers(with(calls, x -> x.apply(table))));
            text.append("its rows then: ").append(rows(t, with(calls, x -> x.apply(table)))).append('\n');
        }
        text.append("the plan: ").append(after(calls).run()).append(", ");
        text.append(answers(with(calls, BlindTables::run)));
        text.append(stepsTaken(after(calls))).append(" steps and ");
        text.append(changesTaken(after(calls))).append(" changes have room");
        return text.toString();
    }

    private static int stepsTaken(BlindTables x) {
        int taken = 0;
        while (taken < 9 && x.distinct()) {
            taken++;
        }
        return taken;
    }

    private static int changesTaken(BlindTables x) {
        int taken = 0;
        while (taken < 9 && x.put(0, 0, 0)) {
            taken++;
        }
        return taken;
    }

    /** The call is answered with the number, and all is as if it had not been made. */
    static void unchanged(String what, ToIntFunction<BlindTables> call, int answer, Calls... before) {
        Check.due(what, call.applyAsInt(after(before)), answer);
        Check.due(what + ": state", state(with(before, call::applyAsInt)), state(before));
    }

    /** The call is answered with false, and all is as if it had not been made. */
    static void refused(String what, Predicate<BlindTables> call, Calls... before) {
        unchanged(what, x -> call.test(x) ? 1 : 0, 0, before);
    }
}
