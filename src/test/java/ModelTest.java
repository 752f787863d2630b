import java.util.Random;

/**
 * Long runs of calls, drawn from fixed seeds, on BlindTables and on PlainTables: every answer is the
 * same. In RUNS of them the whole state is looked at behind each call, which goes past the 512 calls
 * that are promised; LIVES of them are of just 512 calls, with single looks among them.
 */
public final class ModelTest {
    private static final int RUNS = 1500;
    private static final int CALLS = 120;
    private static final int LIVES = 3000;
    private static final int CALLS_OF_A_LIFE = 512;
    private static final int[] EDGES = {
        Integer.MIN_VALUE, Integer.MIN_VALUE + 1, -1, 0, 1, Integer.MAX_VALUE - 1, Integer.MAX_VALUE
    };

    private final Random random;
    private final String name;
    private final int spread;
    private final BlindTables blind = new BlindTables();
    private final PlainTables plain = new PlainTables();

    private ModelTest(int seed) {
        random = new Random(seed);
        name = "seed " + seed + ", ";
        spread = 1 + seed % 9;
    }

    public static void main(String[] args) {
        for (int seed = 0; seed < RUNS; seed++) {
            ModelTest run = new ModelTest(seed);
            run.lookAtAll();
            for (int k = 0; k < CALLS; k++) {
                run.call(k);
            }
        }
        for (int seed = 0; seed < LIVES; seed++) {
            ModelTest life = new ModelTest(seed);
            for (int k = 0; k < CALLS_OF_A_LIFE; k++) {
                life.oneCall(k);
            }
        }
        Check.end();
    }

    private int value() {
        return random.nextInt(12) == 0 ? EDGES[random.nextInt(EDGES.length)] : random.nextInt(spread);
    }

    /** Mostly 0 .. 2, now and then one that is not. */
    private int number() {
        if (random.nextInt(40) == 0) {
            return random.nextBoolean() ? 3 + random.nextInt(3) : EDGES[random.nextInt(3)];
        }
        return random.nextInt(3);
    }

    /** Just one call on each of both objects. */
    private void oneCall(int k) {
        String at = name + "call " + k + " of a life: ";
        switch (random.nextInt(16)) {
            case 0:
            case 1:
            case 2:
                addOne(at, number());
                break;
            case 3:
                int t = number();
                Check.due(at + "plan(" + t + ")", blind.plan(t), plain.plan(t));
                break;
            case 4:
            case 5:
                step(at);
                break;
            case 6:
            case 7:
                Check.due(at + "run()", blind.run(), plain.run());
                break;
            case 8:
            case 9:
                changeOne(at);
                break;
            case 10:
                int u = number();
                Check.due(at + "apply(" + u + ")", blind.apply(u), plain.apply(u));
                break;
            default:
                lookAtOne(at);
        }
    }

    private void lookAtOne(String at) {
        int t = number();
        int r = random.nextInt(26) - 1;
        int k = random.nextInt(plain.length() + 2) - 1;
        switch (random.nextInt(6)) {
            case 0:
                Check.due(at + "rows(" + t + ")", blind.rows(t), plain.rows(t));
                break;
            case 1:
                Check.due(at + "sum(" + t + ")", blind.sum(t), plain.sum(t));
                break;
            case 2:
            case 3:
                Check.due(at + "cell(" + r + ", " + t + ")", blind.cell(r, t), plain.cell(r, t));
                break;
            case 4:
                Check.due(at + "length()", blind.length(), plain.length());
                break;
            default:
                Check.due(at + "access(" + k + ")", blind.access(k), plain.access(k));
        }
    }

    private void call(int k) {
        String at = name + "call " + k + ": ";
        switch (random.nextInt(12)) {
            case 0:
            case 1:
            case 2:
                fill(at);
                break;
            case 3:
            case 4:
                change(at);
                break;
            case 5:
            case 6:
            case 7:
                int t = number();
                Check.due(at + "plan(" + t + ")", blind.plan(t), plain.plan(t));
                break;
            case 8:
            case 9:
                int steps = random.nextInt(4);
                for (int s = 0; s < steps; s++) {
                    step(at);
                }
                break;
            default:
                run(at);
        }
    }

    private void fill(String at) {
        int t = number();
        for (int r = random.nextInt(8); r > 0; r--) {
            addOne(at, t);
        }
        lookAtTables(at);
    }

    private void addOne(String at, int t) {
        int a = value();
        int b = value();
        int c = value();
        Check.due(at + "add", blind.add(t, a, b, c), plain.add(t, a, b, c));
    }

    private void changeOne(String at) {
        int a = value();
        int b = value();
        int c = value();
        if (random.nextInt(3) == 0) {
            Check.due(at + "drop", blind.drop(a), plain.drop(a));
        } else {
            Check.due(at + "put", blind.put(a, b, c), plain.put(a, b, c));
        }
    }

    private void change(String at) {
        for (int r = random.nextInt(8); r > 0; r--) {
            changeOne(at);
        }
        int t = number();
        Check.due(at + "apply(" + t + ")", blind.apply(t), plain.apply(t));
        lookAtTables(at);
        lookAtResult(at);
        lookAtTrace(at);
    }

    private void step(String at) {
        int x = number();
        int y = number();
        int z = number();
        switch (random.nextInt(6)) {
            case 0:
                int v = value();
                Check.due(at + "filter", blind.filter(x, y, v), plain.filter(x, y, v));
                break;
            case 1:
                Check.due(at + "pick", blind.pick(x, y, z), plain.pick(x, y, z));
                break;
            case 2:
                Check.due(at + "distinct", blind.distinct(), plain.distinct());
                break;
            case 3:
                Check.due(at + "group", blind.group(x, y), plain.group(x, y));
                break;
            default:
                Check.due(at + "join", blind.join(x, y, z), plain.join(x, y, z));
        }
    }

    private void run(String at) {
        Check.due(at + "run()", blind.run(), plain.run());
        lookAtTables(at);
        lookAtResult(at);
        lookAtTrace(at);
    }

    private void lookAtAll() {
        lookAtTables(name);
        lookAtResult(name);
        lookAtTrace(name);
    }

    private void lookAtTables(String at) {
        for (int t = -1; t <= 3; t++) {
            Check.due(at + "rows(" + t + ")", blind.rows(t), plain.rows(t));
            Check.due(at + "sum(" + t + ")", blind.sum(t), plain.sum(t));
        }
    }

    private void lookAtResult(String at) {
        for (int r = -1; r <= 25; r++) {
            for (int c = -1; c <= 3; c++) {
                Check.due(at + "cell(" + r + ", " + c + ")", blind.cell(r, c), plain.cell(r, c));
            }
        }
    }

    private void lookAtTrace(String at) {
        Check.due(at + "length()", blind.length(), plain.length());
        for (int k = -1; k <= plain.length(); k++) {
            Check.due(at + "access(" + k + ")", blind.access(k), plain.access(k));
        }
    }
}
