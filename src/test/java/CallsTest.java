import java.lang.management.ManagementFactory;

/** "An object is used for at most 512 calls": the 512th is answered as well, and all of them need little room. */
public final class CallsTest {
    private static final int CALLS = 512;
    private static final int[][] LARGEST = {{64000, 1}, {1, 4000}, {63985, 1}, {16, 4000}, {32, 2000}};

    public static void main(String[] args) {
        lastCallOfEachKind();
        largestForms();
        longestLines();
        roomOfForms();
        roomOfCopies();
        Check.end();
    }

    /** 508 calls of a kind after four others: the last one's answer is due as the first one's is. */
    private static void lastCallOfEachKind() {
        for (int kind = 0; kind < 12; kind++) {
            BitCopier x = new BitCopier();
            x.set(1, 16, 16);
            x.put(1, 0, -1);
            x.forms(0, -1, 1);
            x.set(0, 0, 0);
            int answer = 0;
            for (int call = 5; call <= CALLS; call++) {
                answer = callOf(kind, x, call % 2);
            }
            int[] due = {20, 1, 65535, 1, 16, 1, 1, 1, 1, 16, 256, 16};
            Check.due("call 512 of kind " + kind, answer, due[kind]);
        }
    }

    private static int callOf(int kind, BitCopier x, int odd) {
        return switch (kind) {
            case 0 -> x.form(2, 16, 20 + odd);
            case 1 -> x.put(2, 15 + odd, -1) ? 1 : 0;
            case 2 -> x.word(1, odd);
            case 3 -> x.bit(1, 15 + odd, 0);
            case 4 -> x.count(1 + odd);
            case 5 -> x.same(2, 3 - 2 * odd) ? 1 : 0;
            case 6 -> x.forms(3, -1, 1 + 3 * odd) ? 1 : 0;
            case 7 -> x.rule(15 + odd) ? 1 : 0;
            case 8 -> x.set(4 + odd, 16, 16) ? 1 : 0;
            case 9 -> x.order(4 + odd, true);
            case 10 -> x.copy();
            default -> x.line(0, 0) / 16;
        };
    }

    private static void largestForms() {
        BitCopier x = new BitCopier();
        for (int call = 1; call < CALLS; call++) {
            int[] size = LARGEST[call % LARGEST.length];
            Check.due("form", x.form(call % 4, size[0], size[1]), 4000);
        }
        Check.due("call 512", x.count(3), 0);
    }

    /** A few of the dearest calls: each goes 2000 times over as many bits as a form may have. */
    private static void longestLines() {
        BitCopier x = new BitCopier();
        x.form(0, 240, 266);
        x.form(1, 240, 266);
        x.forms(0, 1, 2);
        x.set(3, -32768, -32768);
        x.set(1, 32767, 32767);
        x.set(0, -1000, -1000);
        Check.due("nothing in the clip", x.line(2000, 2000), 0);
        x.set(3, 0, 0);
        x.set(4, 32767, 32767);
        x.set(0, 0, 0);
        x.set(2, -2, -3);
        int sum = 0;
        for (int i = 0; i < 2000; i++) {
            sum += Math.max(0, 240 - 2 - i) * (266 - 3);
        }
        Check.due("line(2000, 0)", x.line(2000, 0), sum);
        x.forms(0, 0, -1);
        x.set(0, 0, 0);
        x.set(2, 0, 0);
        sum = 0;
        for (int i = 0; i < 2000; i++) {
            sum += Math.max(0, 266 - i) * 240;
        }
        Check.due("line(0, 2000)", x.line(0, 2000), sum);
        x.forms(0, -1, -1);
        x.set(0, -1999, 0);
        Check.due("line(1999, 0), all of it each time", x.line(1999, 0), 1999 * 240 * 266);
    }

    private static void roomOfForms() {
        BitCopier warm = new BitCopier();
        warm.form(0, 64000, 1);
        long before = allocated();
        BitCopier x = new BitCopier();
        for (int call = 0; call < CALLS; call++) {
            // Ever larger, then as large as can be, for each form in turn.
            x.form(call % 4, 16, Math.min(4000, 17 + call / 4 * 32));
        }
        // Four forms of 4000 numbers, each made anew with doubled room until it was so large.
        Check.due("bytes of 512 forms: few", allocated() - before < 4 * 4000 * 4 * 3, true);
    }

    private static void roomOfCopies() {
        BitCopier x = new BitCopier();
        x.form(0, 64000, 1);
        x.forms(0, 0, -1);
        x.set(1, 32767, 32767);
        x.set(4, 32767, 32767);
        x.set(2, 1, 0);
        x.copy();
        x.line(1, 1);
        long before = allocated();
        for (int call = 9; call + 3 <= CALLS; call += 3) {
            x.set(0, 5, 0);
            x.copy();
            x.line(5, 5);
        }
        Check.due("bytes of copies and lines: hardly any", allocated() - before < 20000, true);
    }

    private static long allocated() {
        java.lang.management.ThreadMXBean bean = ManagementFactory.getThreadMXBean();
        if (bean instanceof com.sun.management.ThreadMXBean counting) {
            return counting.getCurrentThreadAllocatedBytes();
        }
        return 0;
    }
}
