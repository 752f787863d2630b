import java.util.ArrayList;
import java.util.Arrays;
import java.util.LinkedHashSet;
import java.util.List;
import java.util.Map;
import java.util.TreeMap;

/** The document's promises in their plainest form: looks where it likes, and keeps the due trace apart. */
final class PlainTables {
    private static final int NONE = -1;
    private static final int ROOM = -2;

    private final List<List<List<Integer>>> tables =
        Arrays.asList(new ArrayList<>(), new ArrayList<>(), new ArrayList<>());
    private final List<int[]> steps = new ArrayList<>();
    private final List<List<Integer>> changes = new ArrayList<>();
    private List<List<Integer>> result = new ArrayList<>();
    private DueTrace trace = new DueTrace();
    private int planTable = NONE;

    private static boolean upToTwo(int... numbers) {
        for (int n : numbers) {
            if (n < 0 || n > 2) {
                return false;
            }
        }
        return true;
    }

    boolean add(int t, int a, int b, int c) {
        return upToTwo(t) && tables.get(t).size() < 12 && tables.get(t).add(List.of(a, b, c));
    }

    int rows(int t) {
        return upToTwo(t) ? tables.get(t).size() : NONE;
    }

    boolean plan(int t) {
        if (!upToTwo(t)) {
            return false;
        }
        planTable = t;
        steps.clear();
        return true;
    }

    private boolean step(int... step) {
        return planTable != NONE && steps.size() < 3 && steps.add(step);
    }

    boolean filter(int c, int op, int x) {
        return upToTwo(c, op) && step('f', c, op, x);
    }

    boolean pick(int a, int b, int c) {
        return upToTwo(a, b, c) && step('p', a, b, c);
    }

    boolean distinct() {
        return step('d');
    }

    boolean group(int g, int a) {
        return upToTwo(g, a) && step('g', g, a);
    }

    boolean join(int t, int x, int y) {
        return upToTwo(t, x, y) && step('j', t, x, y);
    }

    int run() {
        if (planTable == NONE) {
            return NONE;
        }
        trace = new DueTrace();
        result = new ArrayList<>();
        List<List<Integer>> rows = tables.get(planTable);
        for (int[] step : steps) {
            rows = after(step, rows);
            if (step[0] == 'j' && rows.size() > 24) {
                return ROOM;
            }
        }
        trace.sort(0, rows.size());
        result = new ArrayList<>(rows);
        result.sort(PlainTables::compare);
        return result.size();
    }

    private static int compare(List<Integer> r, List<Integer> s) {
        for (int c = 0; c < 3; c++) {
            if (!r.get(c).equals(s.get(c))) {
                return r.get(c).compareTo(s.get(c));
            }
        }
        return 0;
    }

    private List<List<Integer>> after(int[] step, List<List<Integer>> rows) {
        int n = rows.size();
        switch (step[0]) {
            case 'f':
                trace.filter(n);
                return filtered(step, rows);
            case 'p':
                trace.pick(n);
                return picked(step, rows);
            case 'd':
                trace.distinct(n);
                return new ArrayList<>(new LinkedHashSet<>(rows));
            case 'g':
                trace.group(n);
                return grouped(step, rows);
            default:
                List<List<Integer>> table = tables.get(step[1]);
                List<List<Integer>> joined = joined(step, rows, table);
                trace.join(n, table.size(), joined.size());
                return joined;
        }
    }

    private static List<List<Integer>> filtered(int[] step, List<List<Integer>> rows) {
        List<List<Integer>> given = new ArrayList<>();
        for (List<Integer> row : rows) {
            if (Integer.compare(row.get(step[1]), step[3]) == step[2] - 1) {
                given.add(row);
            }
        }
        return given;
    }

    private static List<List<Integer>> picked(int[] step, List<List<Integer>> rows) {
        List<List<Integer>> given = new ArrayList<>();
        for (List<Integer> row : rows) {
            given.add(List.of(row.get(step[1]), row.get(step[2]), row.get(step[3])));
        }
        return given;
    }

    private static List<List<Integer>> grouped(int[] step, List<List<Integer>> rows) {
        Map<Integer, int[]> totals = new TreeMap<>();
        for (List<Integer> row : rows) {
            int[] total = totals.computeIfAbsent(row.get(step[1]), key -> new int[2]);
            total[0] += row.get(step[2]);
            total[1]++;
        }
        List<List<Integer>> given = new ArrayList<>();
        totals.forEach((key, total) -> given.add(List.of(key, total[0], total[1])));
        return given;
    }

    private static List<List<Integer>> joined(int[] step, List<List<Integer>> rows, List<List<Integer>> table) {
        List<List<Integer>> given = new ArrayList<>();
        for (List<Integer> r : rows) {
            for (List<Integer> s : table) {
                if (r.get(step[2]).equals(s.get(step[3]))) {
                    given.add(List.of(r.get(step[2]), r.get(1) + s.get(1), r.get(2) + s.get(2)));
                }
            }
        }
        return given;
    }

    boolean put(int a, int b, int c) {
        return changes.size() < 6 && changes.add(List.of(a, b, c));
    }

    boolean drop(int number) {
        return changes.size() < 6 && changes.add(List.of(number));
    }

    int apply(int t) {
        if (!upToTwo(t)) {
            return NONE;
        }
        List<List<Integer>> table = tables.get(t);
        trace = new DueTrace();
        trace.batch(table.size(), changes.size());
        List<List<Integer>> changed = new ArrayList<>();
        for (List<Integer> row : table) {
            if (!changes.contains(List.of(row.get(0)))) {
                changed.add(row);
            }
        }
        for (List<Integer> change : changes) {
            if (change.size() == 3) {
                changed.add(change);
            }
        }
        changes.clear();
        if (changed.size() > 12) {
            return ROOM;
        }
        tables.set(t, changed);
        return changed.size();
    }

    int cell(int r, int c) {
        return r >= 0 && r < result.size() && upToTwo(c) ? result.get(r).get(c) : 0;
    }

    int length() {
        return trace.length();
    }

    int access(int k) {
        return k >= 0 && k < trace.length() ? trace.get(k) : NONE;
    }

    int sum(int t) {
        int sum = 0;
        if (upToTwo(t)) {
            for (List<Integer> row : tables.get(t)) {
                sum += 31 * (31 * row.get(0) + row.get(1)) + row.get(2);
            }
        }
        return sum;
    }
}
