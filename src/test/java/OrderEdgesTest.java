/** The boundary cases of promises 8 to 11 and of the paragraph THE ORDER, each on both sides. */
public final class OrderEdgesTest {
    private static final int MIN = Integer.MIN_VALUE;
    private static final int MAX = Integer.MAX_VALUE;

    public static void main(String[] args) {
        newOrder();
        targetIsAForm();
        sourceIsAFormOrNone();
        patternIsAFormOrNone();
        patternIs16By16();
        refusedFormsKeepAllThree();
        ruleFrom0To15();
        whatFrom0To4();
        numbersFromLowestToHighest();
        refusedSetKeepsBoth();
        orderOfNoSuchWhat();
        nothingInTheSize();
        nothingInTheClip();
        Check.end();
    }

    /** Promise 1: "the target is form 0; no source, no pattern; rule 3; .. size 0, 0". */
    private static void newOrder() {
        BitCopier x = new BitCopier();
        for (int what = 0; what < 4; what++) {
            Check.due("new first " + what, x.order(what, false), 0);
            Check.due("new second " + what, x.order(what, true), 0);
        }
        Check.due("new clip's width", x.order(4, false), 16);
        Check.due("new clip's height", x.order(4, true), 16);
        Check.due("size 0, 0", x.copy(), 0);
        Check.due("a line of it", x.line(3, 2), 0);
        x = new BitCopier();
        x.put(0, 0, 0x00FF);
        x.set(1, 16, 1);
        Check.due("all bits of the first row", x.copy(), 16);
        Check.due("1 on 0 and 1 on 1", x.word(0, 0), 0xFFFF);
    }

    /** Of forms without ones: the copy sets a bit, and the form that has it is the target. */
    private static int targetOf(BitCopier x) {
        x.set(1, 1, 1);
        x.rule(15);
        x.copy();
        for (int f = 0; f < 4; f++) {
            if (x.bit(f, 0, 0) == 1) {
                return f;
            }
        }
        return -1;
    }

    /** Promise 8: "false when target is no form". */
    private static void targetIsAForm() {
        int[] none = {-1, 4, -2, 5, MIN, MAX};
        for (int f : none) {
            BitCopier x = new BitCopier();
            x.forms(2, -1, -1);
            Check.due("target " + f, x.forms(f, -1, -1), false);
            Check.due("the target stays", targetOf(x), 2);
        }
        for (int f = 0; f < 4; f++) {
            BitCopier x = new BitCopier();
            Check.due("target " + f, x.forms(f, -1, -1), true);
            Check.due("is the target", targetOf(x), f);
        }
    }

    /** Promise 8: "source .. is neither a form nor NONE". */
    private static void sourceIsAFormOrNone() {
        for (int f = -1; f < 4; f++) {
            BitCopier x = marked();
            Check.due("source " + f, x.forms(0, f, -1), true);
            x.copy();
            Check.due("copied from " + f, x.word(0, 0), f < 0 ? 0xFFFF : 0x1000 << f);
        }
        int[] none = {-2, 4, 5, MIN, MAX};
        for (int f : none) {
            BitCopier x = marked();
            x.forms(0, 3, -1);
            Check.due("source " + f, x.forms(0, f, -1), false);
            x.copy();
            Check.due("copied from 3 still", x.word(0, 0), 0x8000);
        }
    }

    /** Promise 8: "or pattern is neither a form nor NONE". */
    private static void patternIsAFormOrNone() {
        for (int f = -1; f < 4; f++) {
            BitCopier x = marked();
            Check.due("pattern " + f, x.forms(0, -1, f), true);
            x.copy();
            Check.due("copied through " + f, x.word(0, 0), f < 0 ? 0xFFFF : 0x1000 << f);
        }
        int[] none = {-2, 4, 5, MIN, MAX};
        for (int f : none) {
            BitCopier x = marked();
            x.forms(0, -1, 2);
            Check.due("pattern " + f, x.forms(0, -1, f), false);
            x.copy();
            Check.due("copied through 2 still", x.word(0, 0), 0x4000);
        }
    }

    /** An object whose forms can be told from their first words: 0x1000, 0x2000, 0x4000, 0x8000. */
    private static BitCopier marked() {
        BitCopier x = new BitCopier();
        for (int f = 0; f < 4; f++) {
            x.put(f, 0, 0x1000 << f);
        }
        x.set(1, 16, 1);
        return x;
    }

    /** Promise 8: "or the pattern is not 16 wide and 16 high". */
    private static void patternIs16By16() {
        int[] sides = {1, 8, 15, 16, 17, 32, 240};
        for (int width : sides) {
            for (int height : sides) {
                BitCopier x = new BitCopier();
                x.form(1, width, height);
                boolean due = width == 16 && height == 16;
                String name = "pattern of " + width + " " + height;
                Check.due(name, x.forms(0, -1, 1), due);
                Check.due(name + " as all three", x.forms(1, 1, 1), due);
                Check.due("no pattern, source of that size", x.forms(0, 1, -1), true);
                Check.due("no pattern, target of that size", x.forms(1, 0, -1), true);
                Check.due("another pattern", x.forms(1, 1, 2), true);
            }
        }
    }

    private static void refusedFormsKeepAllThree() {
        int[][] refused = {{4, 0, -1}, {-1, 0, -1}, {0, 4, -1}, {0, -2, 2}, {0, 0, 4}, {0, 0, -2}, {2, 2, 0}};
        for (int[] row : refused) {
            BitCopier x = new BitCopier();
            x.form(0, 16, 17);
            x.put(1, 0, 0x0FF0);
            x.put(2, 0, 0xAAAA);
            x.set(1, 16, 1);
            x.forms(3, 1, 2);
            Check.due("refused", x.forms(row[0], row[1], row[2]), false);
            Check.due("copy", x.copy(), 16);
            Check.due("the three stay", x.word(3, 0), 0x0AA0);
            Check.due("form 0 is no target", x.count(0), 0);
        }
    }

    /** Promise 9: "false when it is not 0 .. 15". */
    private static void ruleFrom0To15() {
        int[] none = {-1, 16, -2, 17, 31, 32, 256, -16, MIN, MAX};
        for (int before = 0; before < 16; before++) {
            for (int rule : none) {
                BitCopier x = new BitCopier();
                Check.due("rule " + before, x.rule(before), true);
                Check.due("rule " + rule, x.rule(rule), false);
                Check.due("rule " + before + " stays", ruleOf(x), before);
            }
        }
    }

    private static int ruleOf(BitCopier x) {
        x.put(0, 0, 0xA000);
        x.put(1, 0, 0xC000);
        x.forms(0, 1, -1);
        x.set(1, 4, 1);
        x.copy();
        // The four bits of s and d are 11, 10, 01 and 00: the rule's 1, 2, 4 and 8.
        int rule = 0;
        for (int i = 0; i < 4; i++) {
            rule |= x.bit(0, i, 0) << i;
        }
        return rule;
    }

    /** Promise 10: "false when there is no such what". */
    private static void whatFrom0To4() {
        int[] none = {-1, 5, -2, 6, 1 << 30, 1 << 31, MAX};
        BitCopier x = new BitCopier();
        for (int what = 0; what < 5; what++) {
            Check.due("set what " + what, x.set(what, 10 + what, 20 + what), true);
        }
        for (int what : none) {
            Check.due("set what " + what, x.set(what, 1, 1), false);
        }
        for (int what = 0; what < 5; what++) {
            Check.due("first of " + what, x.order(what, false), 10 + what);
            Check.due("second of " + what, x.order(what, true), 20 + what);
        }
    }

    /** Promise 10: "or a or b is not -32768 .. 32767", on both sides of both ends. */
    private static void numbersFromLowestToHighest() {
        int[] good = {-32768, -32767, -1, 0, 1, 32766, 32767};
        for (int what = 0; what < 5; what++) {
            BitCopier x = new BitCopier();
            for (int a : good) {
                for (int b : good) {
                    Check.due("set " + a + " " + b, x.set(what, a, b), true);
                    Check.due("first of " + what, x.order(what, false), a);
                    Check.due("second of " + what, x.order(what, true), b);
                }
            }
        }
    }

    private static void refusedSetKeepsBoth() {
        int[] wrong = {-32769, 32768, -32770, 32769, -65536, 65536, 65535, MIN, MAX};
        for (int what = 0; what < 5; what++) {
            for (int n : wrong) {
                BitCopier x = new BitCopier();
                x.set(what, 7, 8);
                Check.due("first " + n, x.set(what, n, 1), false);
                Check.due("second " + n, x.set(what, 1, n), false);
                Check.due("both " + n, x.set(what, n, n), false);
                Check.due("first stays", x.order(what, false), 7);
                Check.due("second stays", x.order(what, true), 8);
            }
        }
    }

    /** Promise 11: "0 when there is no such what." */
    private static void orderOfNoSuchWhat() {
        BitCopier x = new BitCopier();
        for (int what = 0; what < 5; what++) {
            x.set(what, 100 + what, 200 + what);
        }
        int[] none = {-1, 5, -2, 6, 1 << 30, 1 << 31, MAX};
        for (int what : none) {
            Check.due("first of " + what, x.order(what, false), 0);
            Check.due("second of " + what, x.order(what, true), 0);
        }
        Check.due("first of 0", x.order(0, false), 100);
        Check.due("second of 4", x.order(4, true), 204);
    }

    /** THE ORDER: "A size .. whose width or height is not above 0 has nothing in it." */
    private static void nothingInTheSize() {
        int[] lengths = {-32768, -32767, -16, -2, -1, 0, 1, 2};
        for (int width : lengths) {
            for (int height : lengths) {
                BitCopier x = new BitCopier();
                x.set(0, 8, 8);
                x.set(1, width, height);
                int due = width > 0 && height > 0 ? width * height : 0;
                Check.due("size " + width + " " + height, x.copy(), due);
                Check.due("ones of it", x.count(0), due);
                x.forms(0, 1, -1);
                Check.due("from a source", x.copy(), due);
            }
        }
    }

    /** THE ORDER: "A .. clip whose width or height is not above 0 has nothing in it." */
    private static void nothingInTheClip() {
        int[] lengths = {-32768, -32767, -16, -2, -1, 0, 1, 2};
        for (int width : lengths) {
            for (int height : lengths) {
                BitCopier x = new BitCopier();
                x.set(1, 16, 16);
                x.set(3, 8, 8);
                x.set(4, width, height);
                int due = width > 0 && height > 0 ? width * height : 0;
                Check.due("clip " + width + " " + height, x.copy(), due);
                Check.due("ones of it", x.count(0), due);
                x.set(3, -32768, -32768);
                Check.due("far before the target", x.copy(), 0);
            }
        }
    }
}
