import java.util.Random;

/** Whatever the arguments are, in whatever state, no call throws. */
public final class NoThrowTest {
    private static final int RUNS = 300;
    private static final int CALLS = 512;
    private static final int[] EDGES = {
        Integer.MIN_VALUE, Integer.MIN_VALUE + 1, -65536, -32769, -32768, -2001, -2000, -17, -16, -2, -1, 0, 1, 2, 3, 4,
        5, 15, 16, 17, 31, 33, 250, 1333, 2000, 2001, 4000, 4001, 32767, 32768, 63999, 64000, 64001, 1 << 28, 1 << 30,
        Integer.MAX_VALUE - 15, Integer.MAX_VALUE,
    };

    private final Random random;
    private final BitCopier x = new BitCopier();

    private NoThrowTest(int seed) {
        random = new Random(seed);
    }

    public static void main(String[] args) {
        for (int seed = 0; seed < RUNS; seed++) {
            NoThrowTest run = new NoThrowTest(seed);
            for (int call = 0; call < CALLS; call++) {
                run.callOnce("seed " + seed + " call " + call);
            }
        }
        Check.end();
    }

    private void callOnce(String name) {
        try {
            callOne();
        } catch (RuntimeException thrown) {
            Check.due(name + " threw " + thrown, true, false);
        }
    }

    private void callOne() {
        switch (random.nextInt(12)) {
            case 0 -> x.form(few(), any(), any());
            case 1 -> x.put(few(), any(), any());
            case 2 -> x.word(few(), any());
            case 3 -> x.bit(few(), any(), any());
            case 4 -> x.count(few());
            case 5 -> x.same(few(), few());
            case 6 -> x.forms(few(), few(), few());
            case 7 -> x.rule(any());
            case 8 -> x.order(few(), random.nextBoolean());
            case 9 -> x.copy();
            case 10 -> x.line(any(), any());
            default -> x.set(few(), any(), any());
        }
    }

    private int few() {
        return random.nextInt(8) == 0 ? any() : random.nextInt(6) - 1;
    }

    private int any() {
        return switch (random.nextInt(3)) {
            case 0 -> EDGES[random.nextInt(EDGES.length)];
            case 1 -> random.nextInt(100) - 30;
            default -> random.nextInt(70000) - 35000;
        };
    }
}
