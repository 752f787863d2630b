import java.util.Random;

/** Accesses hang on the numbers of rows alone; and the longest trace there can be is kept whole. */
public final class BlindnessTest {
    public static void main(String[] args) {
        networksSortAndSelect();
        sameNumbersSameTrace();
        everyJoinThatFits();
        longestTrace();
        Check.end();
    }

    private static void sameTrace(String what, BlindTables x, BlindTables y) {
        Check.due(what + ": length", x.length(), y.length());
        for (int k = 0; k < x.length(); k++) {
            Check.due(what + ": access " + k, x.access(k), y.access(k));
        }
    }

    /** Every pattern of rows kept and lost, of up to twelve rows in falling order. */
    private static void networksSortAndSelect() {
        for (int n = 0; n <= 12; n++) {
            for (int pattern = 0; pattern < 1 << n; pattern++) {
                BlindTables x = new BlindTables();
                for (int r = n - 1; r >= 0; r--) {
                    x.add(0, r, pattern >> r & 1, 0);
                }
                x.plan(0);
                x.filter(1, 1, 1);
                Check.due("filter of " + n + ", pattern " + pattern, x.run(), Integer.bitCount(pattern));
                int at = 0;
                for (int r = 0; r < n; r++) {
                    if ((pattern >> r & 1) == 1) {
                        Check.due("its row " + at, x.cell(at, 0), r);
                        at++;
                    }
                }
            }
        }
    }

    private static void sameNumbersSameTrace() {
        Random random = new Random(17);
        for (int round = 0; round < 200; round++) {
            int n = random.nextInt(13);
            int c = random.nextInt(7);
            BlindTables x = new BlindTables();
            BlindTables y = new BlindTables();
            for (int r = 0; r < n; r++) {
                x.add(0, random.nextInt(), random.nextInt(3), 1);
                y.add(0, r % 2, 3 - r, random.nextInt());
            }
            for (int r = 0; r < c; r++) {
                x.drop(random.nextInt());
                y.put(r % 2, r, r);
            }
            x.apply(0);
            y.apply(0);
            sameTrace("batches of " + c + " on " + n, x, y);
        }
    }

    /** All rows of both tables have one key: every n and u, whether the pairs fit or not. */
    private static void everyJoinThatFits() {
        for (int n = 0; n <= 12; n++) {
            for (int u = 0; u <= 12; u++) {
                BlindTables x = new BlindTables();
                for (int r = 0; r < n; r++) {
                    x.add(0, 5, 12 * r, 1);
                }
                for (int r = 0; r < u; r++) {
                    x.add(2, 5, u - 1 - r, 2);
                }
                x.plan(0);
                x.join(2, 0, 0);
                boolean fits = n * u <= 24;
                Check.due("join of " + n + " with " + u, x.run(), fits ? n * u : BlindTables.ROOM);
                for (int r = 0; fits && r < n * u; r++) {
                    Check.due("its row " + r, x.cell(r, 1), 12 * (r / u) + r % u);
                    Check.due("its row " + r, x.cell(r, 2), 3);
                }
                DueTrace due = new DueTrace();
                due.join(n, u, n * u);
                due.sort(0, fits ? n * u : 0);
                Check.due("its length", x.length(), due.length());
                for (int k = 0; k < due.length(); k++) {
                    Check.due("its access " + k, x.access(k), due.get(k));
                }
            }
        }
    }

    private static void longestTrace() {
        BlindTables x = new BlindTables();
        for (int r = 0; r < 12; r++) {
            x.add(0, r / 2, r, r);
            x.add(1, r / 2, r, r);
            x.add(2, r, r, r);
        }
        x.plan(0);
        x.join(1, 0, 0);
        x.join(2, 0, 0);
        x.join(2, 0, 0);
        Check.due("run of three great joins", x.run(), 24);
        DueTrace due = new DueTrace();
        due.join(12, 12, 24);
        due.join(24, 12, 24);
        due.join(24, 12, 24);
        due.sort(0, 24);
        Check.due("no step on as many rows is longer than a join", longestOfTheOthers() < joinLength(24, 12, 24), true);
        Check.due("its length", x.length(), due.length());
        for (int k = 0; k < due.length(); k++) {
            Check.due("its access " + k, x.access(k), due.get(k));
        }
        Check.due("its end", x.access(due.length()), BlindTables.NONE);
        noJoinIsLonger();
    }

    private static int longestOfTheOthers() {
        DueTrace filter = new DueTrace();
        filter.filter(24);
        DueTrace group = new DueTrace();
        group.group(24);
        return Math.max(filter.length(), group.length());
    }

    private static int joinLength(int n, int u, int m) {
        DueTrace trace = new DueTrace();
        trace.join(n, u, m);
        return trace.length();
    }

    private static void noJoinIsLonger() {
        int first = joinLength(12, 12, 24);
        int later = joinLength(24, 12, 24);
        for (int n = 0; n <= 24; n++) {
            for (int u = 0; u <= 12; u++) {
                for (int m = 0; m <= 25; m++) {
                    int most = n <= 12 ? first : later;
                    Check.due("join " + n + ", " + u + ", " + m + " is longer", joinLength(n, u, m) > most, false);
                }
            }
        }
    }
}
