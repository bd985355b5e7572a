/** The boundary cases of promise 12 and of the paragraph TO COPY, each on both sides. */
public final class CopyEdgesTest {
    private static final int WIDTH = 50;
    private static final int HEIGHT = 5;
    private static final int[] MOVES = {-33, -32, -31, -17, -16, -15, -1, 0, 1, 15, 16, 17, 31, 32, 33};

    public static void main(String[] args) {
        edgesOfTheSize();
        edgesOfTheClip();
        edgesOfTheTarget();
        edgesOfTheSource();
        oneBitAtEachCorner();
        whatDoesNotCountStays();
        fromWithoutASource();
        rulesWithoutASource();
        rulesWithASource();
        bitsCountWhereThePatternIs0();
        patternAtModulo16();
        sourceAsItWasBefore();
        patternAsItWasBefore();
        allThreeAsTheyWereBefore();
        patternNot16By16AnyMore();
        refusedCopyChangesNothing();
        farthestNumbers();
        Check.end();
    }

    /** A target of 50 by 5 with a clip that leaves all of it in, and a rule that sets what counts. */
    private static BitCopier ready() {
        BitCopier x = new BitCopier();
        x.form(0, WIDTH, HEIGHT);
        x.set(3, -100, -100);
        x.set(4, 300, 300);
        x.rule(15);
        return x;
    }

    /** Bits left .. right - 1, top .. bottom - 1 of the target, as far as it has them, and no others. */
    private static void onesAre(String name, BitCopier x, int left, int right, int top, int bottom) {
        boolean asDue = true;
        for (int at = 0; at < WIDTH; at++) {
            for (int y = 0; y < HEIGHT; y++) {
                boolean in = at >= left && at < right && y >= top && y < bottom;
                asDue &= x.bit(0, at, y) == (in ? 1 : 0);
            }
        }
        Check.due(name + ": its bits", asDue, true);
    }

    /** How many of start .. start + length - 1 are 0 .. limit - 1. */
    private static int within(int start, int length, int limit) {
        int sum = 0;
        for (int n = start; n < start + length; n++) {
            sum += n >= 0 && n < limit ? 1 : 0;
        }
        return sum;
    }

    /** "0 <= i < its width, 0 <= j < its height", for all places of both ends in a word. */
    private static void edgesOfTheSize() {
        for (int to = 0; to <= 33; to++) {
            for (int width = 1; to + width <= WIDTH; width++) {
                BitCopier x = ready();
                x.set(0, to, 1);
                x.set(1, width, 3);
                String name = "to " + to + " size " + width;
                Check.due(name, x.copy(), width * 3);
                onesAre(name, x, to, to + width, 1, 4);
            }
        }
    }

    /** "when x, y is in the clip" */
    private static void edgesOfTheClip() {
        for (int place = 0; place <= 33; place++) {
            for (int width = 1; place + width <= WIDTH; width++) {
                BitCopier x = ready();
                x.set(1, WIDTH, HEIGHT);
                x.set(3, place, 1);
                x.set(4, width, 3);
                String name = "clip at " + place + " width " + width;
                Check.due(name, x.copy(), width * 3);
                onesAre(name, x, place, place + width, 1, 4);
            }
        }
    }

    /** "and in the target", before its first and behind its last bit, by the size and by the clip. */
    private static void edgesOfTheTarget() {
        for (int to = -20; to <= WIDTH + 1; to++) {
            for (int y = -4; y <= HEIGHT + 1; y++) {
                BitCopier x = ready();
                x.set(0, to, y);
                x.set(1, 18, 3);
                String name = "to " + to + " " + y;
                int due = within(to, 18, WIDTH) * within(y, 3, HEIGHT);
                Check.due(name, x.copy(), due);
                onesAre(name, x, to, to + 18, y, y + 3);
                BitCopier clipped = ready();
                clipped.set(0, -30, -10);
                clipped.set(1, 200, 100);
                clipped.set(3, to, y);
                clipped.set(4, 18, 3);
                Check.due("clip at " + to + " " + y, clipped.copy(), due);
                Check.due("the same bits", clipped.count(0), due);
            }
        }
    }

    /** "if there is a source, from's x + i, y + j is in the source" */
    private static void edgesOfTheSource() {
        for (int from = -20; from <= 21; from++) {
            for (int y = -4; y <= 3; y++) {
                BitCopier x = ready();
                x.form(1, 20, 2);
                x.forms(0, 1, -1);
                x.set(0, 13, 1);
                x.set(1, 18, 3);
                x.set(2, from, y);
                String name = "from " + from + " " + y;
                Check.due(name, x.copy(), within(from, 18, 20) * within(y, 3, 2));
                int left = 13 + Math.max(0, -from);
                int right = 13 + Math.min(18, 20 - from);
                int top = 1 + Math.max(0, -y);
                int bottom = 1 + Math.min(3, 2 - y);
                onesAre(name, x, left, right, top, bottom);
            }
        }
    }

    /** A single bit meant for each corner, and for the places beside it. */
    private static void oneBitAtEachCorner() {
        int[] columns = {-1, 0, 1, WIDTH - 2, WIDTH - 1, WIDTH};
        int[] rows = {-1, 0, 1, HEIGHT - 2, HEIGHT - 1, HEIGHT};
        for (int at : columns) {
            for (int y : rows) {
                int due = at >= 0 && at < WIDTH && y >= 0 && y < HEIGHT ? 1 : 0;
                BitCopier x = ready();
                x.set(0, at, y);
                x.set(1, 1, 1);
                Check.due("to " + at + " " + y, x.copy(), due);
                onesAre("to " + at + " " + y, x, at, at + 1, y, y + 1);
                x = ready();
                x.form(1, WIDTH, HEIGHT);
                x.forms(0, 1, -1);
                x.set(0, 2, 2);
                x.set(1, 1, 1);
                x.set(2, at, y);
                Check.due("from " + at + " " + y, x.copy(), due);
                onesAre("from " + at + " " + y, x, 2, 2 + due, 2, 2 + due);
            }
        }
    }

    /** Bits that do not count stay, 1 as well as 0. */
    private static void whatDoesNotCountStays() {
        for (int rule = 0; rule < 16; rule++) {
            BitCopier x = ready();
            for (int i = 0; i < 20; i++) {
                x.put(0, i, 0xA5C3 + 0x1357 * i);
            }
            BitCopier old = ready();
            for (int i = 0; i < 20; i++) {
                old.put(0, i, 0xA5C3 + 0x1357 * i);
            }
            x.rule(rule);
            x.set(0, 11, 1);
            x.set(1, 23, 3);
            x.set(3, 14, 2);
            x.set(4, 40, 1);
            Check.due("copy", x.copy(), 20);
            boolean right = true;
            for (int at = 0; at < WIDTH; at++) {
                for (int y = 0; y < HEIGHT; y++) {
                    boolean counts = at >= 14 && at < 34 && y == 2;
                    int before = old.bit(0, at, y);
                    right &= x.bit(0, at, y) == (counts ? ruled(rule, 1, before) : before);
                }
            }
            Check.due("rule " + rule + " elsewhere", right, true);
        }
    }

    private static int ruled(int rule, int s, int d) {
        int part = s == 1 ? (d == 1 ? 1 : 2) : (d == 1 ? 4 : 8);
        return rule / part % 2;
    }

    /** Without a source it is no matter where from is. */
    private static void fromWithoutASource() {
        int[] places = {-32768, -1, 0, 16, 17, 32767};
        for (int a : places) {
            for (int b : places) {
                BitCopier x = new BitCopier();
                x.set(1, 16, 16);
                x.set(2, a, b);
                Check.due("from " + a + " " + b, x.copy(), 256);
                Check.due("all ones", x.count(0), 256);
            }
        }
    }

    /** "or 1 without a source" */
    private static void rulesWithoutASource() {
        for (int rule = 0; rule < 16; rule++) {
            BitCopier x = new BitCopier();
            x.put(0, 0, 0x5555);
            x.set(1, 16, 1);
            x.rule(rule);
            x.copy();
            int due = (rule & 1) * 0x5555 + rule / 2 % 2 * 0xAAAA;
            Check.due("rule " + rule, x.word(0, 0), due);
        }
    }

    private static void rulesWithASource() {
        for (int rule = 0; rule < 16; rule++) {
            BitCopier x = new BitCopier();
            x.put(0, 0, 0x5555);
            x.put(1, 0, 0x3333);
            x.forms(0, 1, -1);
            x.set(1, 16, 1);
            x.rule(rule);
            x.copy();
            int due = rule % 2 * 0x1111 + rule / 2 % 2 * 0x2222 + rule / 4 % 2 * 0x4444 + rule / 8 * 0x8888;
            Check.due("rule " + rule, x.word(0, 0), due);
        }
    }

    /** A bit that the pattern makes 0 counts still, and the rule is used on it. */
    private static void bitsCountWhereThePatternIs0() {
        for (int rule = 0; rule < 16; rule++) {
            BitCopier x = new BitCopier();
            x.put(0, 0, 0x5555);
            x.put(1, 0, 0x3333);
            x.put(2, 0, 0x0F0F);
            x.set(1, 16, 1);
            x.rule(rule);
            x.forms(0, 1, 2);
            Check.due("all count", x.copy(), 16);
            for (int at = 0; at < 16; at++) {
                int s = 0x3333 & 0x0F0F;
                int due = ruled(rule, s >> 15 - at & 1, 0x5555 >> 15 - at & 1);
                Check.due("rule " + rule + " bit " + at, x.bit(0, at, 0), due);
            }
            x.put(0, 0, 0x5555);
            x.forms(0, -1, 2);
            Check.due("all count without a source", x.copy(), 16);
            for (int at = 0; at < 16; at++) {
                int due = ruled(rule, 0x0F0F >> 15 - at & 1, 0x5555 >> 15 - at & 1);
                Check.due("rule " + rule + " bit " + at + " without", x.bit(0, at, 0), due);
            }
        }
    }

    /** "the pattern's bit at x modulo 16, y modulo 16", x and y being those of the target. */
    private static void patternAtModulo16() {
        for (int px = 0; px < 16; px++) {
            int py = px * 7 % 16;
            BitCopier x = new BitCopier();
            x.form(0, 66, 50);
            x.form(3, 80, 60);
            x.put(1, py, 0x8000 >>> px);
            x.forms(3, -1, -1);
            x.set(1, 80, 60);
            x.set(4, 80, 60);
            x.copy();
            x.forms(0, 3, 1);
            x.set(0, 3, 5);
            x.set(2, 1, 2);
            Check.due("all but three columns and five rows", x.copy(), 63 * 45);
            int ones = 0;
            for (int at = px; at < 66; at += 16) {
                for (int y = py; y < 50; y += 16) {
                    boolean counts = at >= 3 && y >= 5;
                    ones += counts ? 1 : 0;
                    Check.due("bit " + at + " " + y, x.bit(0, at, y), counts ? 1 : 0);
                }
            }
            Check.due("ones of the pattern's " + px + " " + py, x.count(0), ones);
        }
    }

    /** "s is the bit of the source there, as it was before all of this", with source and target one form. */
    private static void sourceAsItWasBefore() {
        for (int dx : MOVES) {
            for (int dy = -2; dy <= 2; dy++) {
                for (int rule = 0; rule < 16; rule++) {
                    moved(dx, dy, rule, -1);
                }
                moved(dx, dy, 3, 2);
                moved(dx, dy, 6, 2);
            }
        }
    }

    /** A source of the same bits in another form must bring about just the same. */
    private static void moved(int dx, int dy, int rule, int pattern) {
        BitCopier one = noisy();
        one.forms(0, 0, pattern);
        int counted = move(one, dx, dy, rule);
        BitCopier two = noisy();
        two.forms(0, 1, pattern);
        String name = "moved by " + dx + " " + dy + " rule " + rule;
        Check.due(name, counted, move(two, dx, dy, rule));
        boolean right = true;
        for (int i = 0; i < 28; i++) {
            right &= one.word(0, i) == two.word(0, i);
        }
        Check.due(name + " as from another form", right, true);
    }

    private static int move(BitCopier x, int dx, int dy, int rule) {
        x.rule(rule);
        x.set(0, 34 + dx, 2 + dy);
        x.set(1, 45, 3);
        x.set(2, 34, 2);
        x.set(4, 110, 7);
        return x.copy();
    }

    /** Forms 0 and 1 are the same, without any rule in their bits; 2 is a pattern. */
    private static BitCopier noisy() {
        BitCopier x = new BitCopier();
        x.form(0, 110, 4);
        x.form(1, 110, 4);
        int noise = 99991;
        for (int i = 0; i < 28; i++) {
            noise = noise * 1103515245 + 12345;
            x.put(0, i, noise >>> 9);
            x.put(1, i, noise >>> 9);
        }
        for (int i = 0; i < 16; i++) {
            noise = noise * 1103515245 + 12345;
            x.put(2, i, noise >>> 9);
        }
        return x;
    }

    /** "The pattern is as it was before all of this, too": it may be the target. */
    private static void patternAsItWasBefore() {
        for (int rule = 0; rule < 16; rule++) {
            BitCopier x = threeAlike();
            x.rule(rule);
            x.set(1, 13, 14);
            x.set(0, 2, 1);
            x.set(2, 1, 2);
            x.forms(0, 1, 0);
            int counted = x.copy();
            BitCopier y = threeAlike();
            y.rule(rule);
            y.set(1, 13, 14);
            y.set(0, 2, 1);
            y.set(2, 1, 2);
            y.forms(0, 1, 2);
            Check.due("counted by rule " + rule, counted, y.copy());
            for (int i = 0; i < 16; i++) {
                Check.due("rule " + rule + " row " + i, x.word(0, i), y.word(0, i));
            }
        }
    }

    private static BitCopier threeAlike() {
        BitCopier x = new BitCopier();
        int noise = 77777;
        for (int i = 0; i < 16; i++) {
            noise = noise * 1103515245 + 12345;
            for (int f = 0; f < 3; f++) {
                x.put(f, i, noise >>> 9);
            }
        }
        return x;
    }

    /** Source, pattern and target one form, moved every way that 16 by 16 bits allow. */
    private static void allThreeAsTheyWereBefore() {
        for (int dx = -16; dx <= 16; dx++) {
            for (int dy = -16; dy <= 16; dy++) {
                for (int rule = 1; rule < 16; rule += 5) {
                    BitCopier x = threeAlike();
                    x.forms(0, 0, 0);
                    int counted = moveWhole(x, dx, dy, rule);
                    BitCopier y = threeAlike();
                    y.forms(0, 1, 2);
                    String name = "all three by " + dx + " " + dy + " rule " + rule;
                    Check.due(name, counted, moveWhole(y, dx, dy, rule));
                    Check.due(name + " counted", counted, (16 - Math.abs(dx)) * (16 - Math.abs(dy)));
                    boolean right = true;
                    for (int i = 0; i < 16; i++) {
                        right &= x.word(0, i) == y.word(0, i);
                    }
                    Check.due(name + " bits", right, true);
                }
            }
        }
    }

    private static int moveWhole(BitCopier x, int dx, int dy, int rule) {
        x.rule(rule);
        x.set(0, dx, dy);
        x.set(1, 16, 16);
        return x.copy();
    }

    /** Promise 12: "NONE when the pattern is not 16 wide and 16 high any more." */
    private static void patternNot16By16AnyMore() {
        int[] sides = {1, 15, 16, 17, 32};
        for (int width : sides) {
            for (int height : sides) {
                BitCopier x = new BitCopier();
                x.set(1, 16, 16);
                x.rule(15);
                x.forms(0, -1, 1);
                x.form(1, width, height);
                boolean fits = width == 16 && height == 16;
                String name = "pattern now " + width + " " + height;
                Check.due(name, x.copy(), fits ? 256 : -1);
                Check.due(name + " ones", x.count(0), fits ? 256 : 0);
                x.set(1, 0, 0);
                Check.due(name + " without a size", x.copy(), fits ? 0 : -1);
                x.form(1, 16, 16);
                x.set(1, 16, 16);
                Check.due("16 by 16 again", x.copy(), 256);
                x.form(1, width, height);
                x.forms(0, -1, -1);
                Check.due("no pattern any more", x.copy(), 256);
            }
        }
        BitCopier x = new BitCopier();
        x.set(1, 16, 16);
        x.forms(0, 0, 0);
        x.form(0, 17, 16);
        Check.due("the target as a pattern no more", x.copy(), -1);
        x.forms(0, 1, 2);
        x.form(0, 5, 5);
        x.form(1, 3, 3);
        Check.due("target and source of other sizes", x.copy(), 9);
    }

    private static void refusedCopyChangesNothing() {
        BitCopier x = new BitCopier();
        x.set(0, 1, 2);
        x.set(1, 3, 4);
        x.set(2, 5, 6);
        x.put(0, 0, 0x1234);
        x.forms(0, -1, 1);
        x.form(1, 16, 15);
        x.put(1, 0, 0x4321);
        Check.due("refused", x.copy(), -1);
        for (int what = 0; what < 3; what++) {
            Check.due("first of " + what, x.order(what, false), 1 + 2 * what);
            Check.due("second of " + what, x.order(what, true), 2 + 2 * what);
        }
        Check.due("target", x.word(0, 0), 0x1234);
        Check.due("its count", x.count(0), 5);
        Check.due("pattern", x.word(1, 0), 0x4321);
    }

    /** All numbers at their ends: sums of two of them are not to wrap around or be cut off. */
    private static void farthestNumbers() {
        BitCopier x = new BitCopier();
        x.form(0, 64000, 1);
        x.form(1, 64000, 1);
        x.rule(15);
        x.set(0, 32767, 0);
        x.set(1, 32767, 32767);
        x.set(3, 32767, 0);
        x.set(4, 32767, 32767);
        Check.due("up to the target's end", x.copy(), 64000 - 32767);
        Check.due("its first bit", x.bit(0, 32767, 0), 1);
        Check.due("the one before", x.bit(0, 32766, 0), 0);
        Check.due("its last bit", x.bit(0, 63999, 0), 1);
        x.forms(0, 1, -1);
        x.set(2, 32767, 0);
        Check.due("from as far", x.copy(), 64000 - 32767);
        x.set(2, -32768, 0);
        Check.due("from before the source", x.copy(), 0);
        x.set(2, -32766, 0);
        Check.due("one bit would be in the source, but not in the target", x.copy(), 0);
        x.set(0, 0, 0);
        x.set(3, 0, 0);
        Check.due("one bit, and in both", x.copy(), 1);
        x.set(2, -32767, 0);
        Check.due("one bit too far", x.copy(), 0);
        x.forms(0, -1, -1);
        x.set(0, -32766, -32766);
        Check.due("the size's last bit is the target's first", x.copy(), 1);
        x.set(0, -32767, -32766);
        Check.due("a bit too far left", x.copy(), 0);
        x.set(0, -32766, -32767);
        Check.due("a bit too far up", x.copy(), 0);
        x.set(0, 0, 0);
        x.set(3, -32766, -32766);
        Check.due("the clip's last bit is the target's first", x.copy(), 1);
        x.set(3, -32768, -32768);
        Check.due("the clip ends before", x.copy(), 0);
        x.set(0, -32768, 0);
        x.set(1, -32768, 1);
        x.set(3, -32768, -32768);
        x.set(4, -32768, -32768);
        Check.due("all at the lowest", x.copy(), 0);
    }
}
