/** Promises 1 and 8 to 11: a new object's order; forms, rule, set, order. */
public final class OrderTest {
    public static void main(String[] args) {
        newOrder();
        newFormsAndRule();
        setAndOrder();
        setRefuses();
        orderRefuses();
        formsAreUsed();
        formsRefuse();
        rules();
        Check.end();
    }

    private static void newOrder() {
        BitCopier x = new BitCopier();
        for (int what = 0; what < 5; what++) {
            Check.due("new first " + what, x.order(what, false), what == 4 ? 16 : 0);
            Check.due("new second " + what, x.order(what, true), what == 4 ? 16 : 0);
        }
        Check.due("size is 0, 0", x.copy(), 0);
    }

    private static void newFormsAndRule() {
        BitCopier x = new BitCopier();
        x.set(1, 20, 20);
        x.set(0, 4, 0);
        Check.due("no source, no pattern, the clip", x.copy(), 12 * 16);
        Check.due("target 0", x.count(0), 12 * 16);
        x.copy();
        Check.due("rule 3 sets again", x.count(0), 12 * 16);
        Check.due("other forms", x.count(1) + x.count(2) + x.count(3), 0);
    }

    private static void setAndOrder() {
        BitCopier x = new BitCopier();
        for (int what = 0; what < 5; what++) {
            Check.due("set " + what, x.set(what, 100 + what, -200 - what), true);
        }
        for (int what = 0; what < 5; what++) {
            Check.due("first " + what, x.order(what, false), 100 + what);
            Check.due("second " + what, x.order(what, true), -200 - what);
        }
        for (int what = 0; what < 5; what++) {
            Check.due("edges " + what, x.set(what, -32768, 32767), true);
            Check.due("lowest " + what, x.order(what, false), -32768);
            Check.due("highest " + what, x.order(what, true), 32767);
            Check.due("edges over " + what, x.set(what, 32767, -32768), true);
            Check.due("highest first " + what, x.order(what, false), 32767);
            Check.due("lowest second " + what, x.order(what, true), -32768);
        }
    }

    private static void setRefuses() {
        BitCopier x = new BitCopier();
        int[] wrong = {32768, -32769, 65536, Integer.MAX_VALUE, Integer.MIN_VALUE};
        for (int what = 0; what < 5; what++) {
            x.set(what, 7, 8);
            for (int n : wrong) {
                Check.due("set first " + n, x.set(what, n, 1), false);
                Check.due("set second " + n, x.set(what, 1, n), false);
            }
            Check.due("kept first", x.order(what, false), 7);
            Check.due("kept second", x.order(what, true), 8);
        }
        int[] noWhat = {-1, 5, 6, 10, Integer.MAX_VALUE, Integer.MIN_VALUE, 1 << 30, 1 << 31};
        for (int what : noWhat) {
            Check.due("set what " + what, x.set(what, 1, 1), false);
        }
        for (int what = 0; what < 5; what++) {
            Check.due("kept first", x.order(what, false), 7);
            Check.due("kept second", x.order(what, true), 8);
        }
    }

    private static void orderRefuses() {
        BitCopier x = new BitCopier();
        for (int what = 0; what < 5; what++) {
            x.set(what, 7, 8);
        }
        int[] noWhat = {-1, 5, 6, Integer.MAX_VALUE, Integer.MIN_VALUE, 1 << 30};
        for (int what : noWhat) {
            Check.due("order " + what, x.order(what, false), 0);
            Check.due("order " + what + " second", x.order(what, true), 0);
        }
    }

    private static void formsAreUsed() {
        BitCopier x = new BitCopier();
        x.set(1, 16, 1);
        x.put(1, 0, 0x0FF0);
        x.put(2, 0, 0xAAAA);
        Check.due("forms", x.forms(3, 1, 2), true);
        Check.due("copy", x.copy(), 16);
        Check.due("source through pattern", x.word(3, 0), 0x0AA0);
        Check.due("no pattern", x.forms(3, 1, -1), true);
        x.copy();
        Check.due("source alone", x.word(3, 0), 0x0FF0);
        Check.due("no source", x.forms(3, -1, 2), true);
        x.copy();
        Check.due("pattern alone", x.word(3, 0), 0xAAAA);
        Check.due("neither", x.forms(3, BitCopier.NONE, BitCopier.NONE), true);
        x.copy();
        Check.due("ones", x.word(3, 0), 0xFFFF);
        Check.due("form 0 untouched", x.count(0), 0);
        Check.due("one form for all", x.forms(2, 2, 2), true);
    }

    private static void formsRefuse() {
        BitCopier x = new BitCopier();
        x.set(1, 16, 1);
        x.put(1, 0, 0x0FF0);
        x.put(2, 0, 0xAAAA);
        x.forms(3, 1, 2);
        int[] none = {4, -2, 5, Integer.MAX_VALUE, Integer.MIN_VALUE};
        for (int f : none) {
            Check.due("target " + f, x.forms(f, -1, -1), false);
            Check.due("source " + f, x.forms(0, f, -1), false);
            Check.due("pattern " + f, x.forms(0, -1, f), false);
        }
        Check.due("target NONE", x.forms(-1, -1, -1), false);
        int[][] wrongSizes = {{16, 15}, {15, 16}, {16, 17}, {17, 16}, {32, 8}, {8, 16}};
        for (int[] size : wrongSizes) {
            x.form(0, size[0], size[1]);
            Check.due("pattern " + size[0] + " " + size[1], x.forms(1, 2, 0), false);
        }
        x.copy();
        Check.due("the order is as it was", x.word(3, 0), 0x0AA0);
        x.form(0, 16, 16);
        Check.due("pattern fits again", x.forms(1, 2, 0), true);
    }

    private static void rules() {
        BitCopier x = new BitCopier();
        x.set(1, 16, 1);
        x.put(1, 0, 0x3333);
        x.forms(0, 1, -1);
        for (int rule = 0; rule < 16; rule++) {
            x.put(0, 0, 0x5555);
            Check.due("rule " + rule, x.rule(rule), true);
            Check.due("copy", x.copy(), 16);
            Check.due("by rule " + rule, x.word(0, 0), ruled(rule));
        }
        x.rule(6);
        int[] none = {-1, 16, 17, 32 + 3, Integer.MAX_VALUE, Integer.MIN_VALUE};
        for (int rule : none) {
            Check.due("rule " + rule, x.rule(rule), false);
        }
        x.put(0, 0, 0x5555);
        x.copy();
        Check.due("rule 6 kept", x.word(0, 0), 0x6666);
    }

    /** With s = 0011 and d = 0101: neither, target only, source only, both. */
    private static int ruled(int rule) {
        int four = 0;
        four |= (rule & 8) != 0 ? 8 : 0;
        four |= (rule & 4) != 0 ? 4 : 0;
        four |= (rule & 2) != 0 ? 2 : 0;
        four |= (rule & 1) != 0 ? 1 : 0;
        return four * 0x1111;
    }
}
