import java.util.Arrays;
import java.util.Random;

/** Long runs of calls, compared with a model that does every bit by itself, as the document says it. */
public final class ModelTest {
    private static final int RUNS = 1500;
    /** An object is good for so many calls, those that look at its state among them. */
    private static final int CALLS = 512;
    private static final int CALLS_AT_THE_END = 150;

    private final Random random;
    private final BitCopier real = new BitCopier();
    private final int[][][] bits = new int[4][16][16];
    private final int[] numbers = {0, 0, 0, 0, 0, 0, 0, 0, 16, 16};
    private int target = 0;
    private int source = -1;
    private int pattern = -1;
    private int rule = 3;
    private String name = "";

    private ModelTest(int seed) {
        random = new Random(seed);
    }

    public static void main(String[] args) {
        for (int seed = 0; seed < RUNS && Check.allRight(); seed++) {
            new ModelTest(seed).run(seed);
        }
        Check.end();
    }

    private void run(int seed) {
        for (int call = 1; call <= CALLS; call++) {
            name = "seed " + seed + " call " + call + " ";
            if (call > CALLS - CALLS_AT_THE_END || random.nextInt(4) == 0) {
                look();
            } else {
                change();
            }
        }
    }

    private void change() {
        switch (random.nextInt(12)) {
            case 0 -> form();
            case 1, 2, 3 -> put();
            case 4 -> forms();
            case 5 -> rule();
            case 6, 7, 8 -> set();
            case 9, 10 -> copy();
            default -> line();
        }
    }

    private void look() {
        int f = random.nextInt(3) == 0 ? random.nextInt(4) : target;
        switch (random.nextInt(8)) {
            case 0 -> Check.due(name + "count " + f, real.count(f), ones(f));
            case 1 -> lookAtNumber();
            case 2 -> lookAtBit(f);
            case 3 -> lookAtTwo(f);
            default -> lookAtWord(f);
        }
    }

    private int ones(int f) {
        int sum = 0;
        for (int[] row : bits[f]) {
            for (int bit : row) {
                sum += bit;
            }
        }
        return sum;
    }

    private void lookAtNumber() {
        int k = random.nextInt(10);
        Check.due(name + "order " + k, real.order(k / 2, k % 2 == 1), numbers[k]);
    }

    private void lookAtBit(int f) {
        int y = random.nextInt(bits[f].length);
        int x = random.nextInt(bits[f][0].length);
        Check.due(name + "bit " + f + " " + x + " " + y, real.bit(f, x, y), bits[f][y][x]);
    }

    private void lookAtTwo(int f) {
        int g = random.nextInt(4);
        boolean alike = bits[f].length == bits[g].length;
        for (int y = 0; alike && y < bits[f].length; y++) {
            alike = Arrays.equals(bits[f][y], bits[g][y]);
        }
        Check.due(name + "same " + f + " " + g, real.same(f, g), alike);
    }

    private void lookAtWord(int f) {
        int width = bits[f][0].length;
        int row = (width + 15) / 16;
        int i = random.nextInt(row * bits[f].length);
        int due = 0;
        for (int k = 0; k < 16; k++) {
            int x = i % row * 16 + k;
            due = 2 * due + (x < width ? bits[f][i / row][x] : 0);
        }
        Check.due(name + "word " + f + " " + i, real.word(f, i), due);
    }

    private void form() {
        int f = random.nextInt(4);
        int width = random.nextBoolean() ? 16 : 1 + random.nextInt(70);
        int height = random.nextBoolean() ? 16 : 1 + random.nextInt(30);
        bits[f] = new int[height][width];
        Check.due(name + "form", real.form(f, width, height), (width + 15) / 16 * height);
    }

    private void put() {
        int f = random.nextInt(4);
        int width = bits[f][0].length;
        int row = (width + 15) / 16;
        int i = random.nextInt(row * bits[f].length);
        int w = random.nextInt();
        for (int k = 0; k < 16 && i % row * 16 + k < width; k++) {
            bits[f][i / row][i % row * 16 + k] = w >> 15 - k & 1;
        }
        Check.due(name + "put", real.put(f, i, w), true);
    }

    private void forms() {
        int t = random.nextInt(4);
        int s = random.nextInt(3) == 0 ? t : random.nextInt(5) - 1;
        int p = random.nextInt(2) == 0 ? -1 : random.nextInt(4);
        boolean good = fits(p);
        if (good) {
            target = t;
            source = s;
            pattern = p;
        }
        Check.due(name + "forms", real.forms(t, s, p), good);
    }

    private boolean fits(int p) {
        return p == -1 || bits[p].length == 16 && bits[p][0].length == 16;
    }

    private void rule() {
        rule = random.nextInt(16);
        Check.due(name + "rule", real.rule(rule), true);
    }

    private void set() {
        int what = random.nextInt(5);
        int a = number(what);
        int b = number(what);
        numbers[2 * what] = a;
        numbers[2 * what + 1] = b;
        Check.due(name + "set", real.set(what, a, b), true);
    }

    private int number(int what) {
        int kind = random.nextInt(20);
        boolean length = what == 1 || what == 4;
        if (kind == 0) {
            return random.nextBoolean() ? -32768 + random.nextInt(10) : 32767 - random.nextInt(10);
        }
        return length ? random.nextInt(80) - 2 : random.nextInt(50) - 15;
    }

    private void copy() {
        Check.due(name + "copy", real.copy(), fits(pattern) ? copyBits() : -1);
    }

    private int copyBits() {
        int[][] into = bits[target];
        int[][] from = source < 0 ? null : deepCopy(bits[source]);
        int[][] tile = pattern < 0 ? null : deepCopy(bits[pattern]);
        int counted = 0;
        for (int y = 0; y < into.length; y++) {
            for (int x = 0; x < into[0].length; x++) {
                int i = x - numbers[0];
                int j = y - numbers[1];
                if (!in(i, 0, numbers[2]) || !in(j, 0, numbers[3])
                        || !in(x, numbers[6], numbers[8]) || !in(y, numbers[7], numbers[9])) {
                    continue;
                }
                int sx = numbers[4] + i;
                int sy = numbers[5] + j;
                if (from != null && (!in(sx, 0, from[0].length) || !in(sy, 0, from.length))) {
                    continue;
                }
                counted++;
                int s = from == null ? 1 : from[sy][sx];
                if (tile != null && tile[y % 16][x % 16] == 0) {
                    s = 0;
                }
                into[y][x] = ruled(s, into[y][x]);
            }
        }
        return counted;
    }

    private int ruled(int s, int d) {
        int part = s == 1 ? (d == 1 ? 1 : 2) : (d == 1 ? 4 : 8);
        return (rule & part) != 0 ? 1 : 0;
    }

    private static boolean in(int n, int place, int length) {
        return n >= place && n < place + length;
    }

    private static int[][] deepCopy(int[][] rows) {
        int[][] result = new int[rows.length][];
        for (int y = 0; y < rows.length; y++) {
            result[y] = rows[y].clone();
        }
        return result;
    }

    private void line() {
        int reach = random.nextInt(10) == 0 ? 60 : 8;
        int dx = random.nextInt(2 * reach + 1) - reach;
        int dy = random.nextInt(2 * reach + 1) - reach;
        int due = fits(pattern) ? drawn(dx, dy) : -1;
        Check.due(name + "line", real.line(dx, dy), due);
    }

    private int drawn(int dx, int dy) {
        int counted = copyBits();
        boolean alongX = Math.abs(dx) > Math.abs(dy);
        int major = alongX ? 0 : 1;
        int way = alongX ? dx : dy;
        int sideWay = alongX ? dy : dx;
        int size = Math.abs(way);
        int p = size / 2;
        for (int times = 1; times <= size; times++) {
            int next = numbers[major] + Integer.signum(way);
            if (!in(next, -32768, 65536)) {
                return counted;
            }
            numbers[major] = next;
            p -= Math.abs(sideWay);
            if (p < 0) {
                int side = numbers[1 - major] + Integer.signum(sideWay);
                if (!in(side, -32768, 65536)) {
                    return counted;
                }
                numbers[1 - major] = side;
                p += size;
            }
            if (times < size) {
                counted += copyBits();
            }
        }
        return counted;
    }
}
