/** Promise 12: copy, at the edges that the document names. */
public final class CopyTest {
    public static void main(String[] args) {
        clipped();
        nothingInIt();
        limitedBySource();
        farAway();
        overlapping();
        patternModulo();
        patternIsTarget();
        patternIsSource();
        patternFitsNoMore();
        bitsBehindTheWidth();
        widest();
        Check.end();
    }

    private static BitCopier wide(int width, int height) {
        BitCopier x = new BitCopier();
        x.form(0, width, height);
        x.set(1, width, height);
        x.set(4, width, height);
        return x;
    }

    private static void clipped() {
        BitCopier x = wide(40, 10);
        x.set(3, 10, 2);
        x.set(4, 12, 3);
        Check.due("clipped", x.copy(), 36);
        for (int yy = 0; yy < 10; yy++) {
            for (int xx = 0; xx < 40; xx++) {
                boolean in = xx >= 10 && xx < 22 && yy >= 2 && yy < 5;
                Check.due("bit " + xx + " " + yy, x.bit(0, xx, yy), in ? 1 : 0);
            }
        }
        x.set(3, 35, 8);
        Check.due("clip over the target's end", x.copy(), 10);
        x.set(3, -5, -1);
        Check.due("clip over the target's start", x.copy(), 14);
        x.set(3, 40, 0);
        Check.due("clip beside the target", x.copy(), 0);
        x.set(3, -12, 0);
        Check.due("clip before the target", x.copy(), 0);
    }

    private static void nothingInIt() {
        BitCopier x = wide(40, 10);
        int[][] empty = {{0, 5}, {5, 0}, {-1, 5}, {5, -1}, {-32768, -32768}, {-5, -5}, {0, 0}};
        for (int[] size : empty) {
            x.set(1, size[0], size[1]);
            Check.due("size " + size[0] + " " + size[1], x.copy(), 0);
            x.set(1, 40, 10);
            x.set(4, size[0], size[1]);
            Check.due("clip " + size[0] + " " + size[1], x.copy(), 0);
            x.set(4, 40, 10);
        }
        Check.due("nothing copied", x.count(0), 0);
    }

    private static void limitedBySource() {
        BitCopier x = wide(40, 10);
        x.form(1, 7, 3);
        x.forms(0, 1, -1);
        x.rule(15);
        x.set(0, 10, 4);
        Check.due("all of the source", x.copy(), 21);
        Check.due("first", x.bit(0, 10, 4), 1);
        Check.due("last", x.bit(0, 16, 6), 1);
        Check.due("ones", x.count(0), 21);
        x.rule(0);
        x.copy();
        x.rule(15);
        x.set(2, -2, -1);
        Check.due("from before the source", x.copy(), 21);
        Check.due("first, later", x.bit(0, 12, 5), 1);
        Check.due("last, later", x.bit(0, 18, 7), 1);
        x.set(2, 7, 0);
        Check.due("from behind the source", x.copy(), 0);
        x.set(2, 6, 2);
        Check.due("from its last bit", x.copy(), 1);
        x.set(2, -40, 0);
        Check.due("from too far before", x.copy(), 0);
        x.set(2, -29, 0);
        Check.due("to the target's last column", x.copy(), 3);
        x.set(1, 30, 1);
        Check.due("to the size's last column", x.copy(), 1);
    }

    private static void farAway() {
        BitCopier x = wide(40, 10);
        x.forms(0, 0, -1);
        x.rule(12);
        int[] far = {-32768, 32767, 0};
        for (int to : far) {
            for (int from : far) {
                x.set(0, to, to);
                x.set(2, from, from);
                x.set(1, 32767, 32767);
                x.set(3, -32768, -32768);
                x.set(4, 32767, 32767);
                Check.due("to " + to + " from " + from + ", clip before", x.copy(), 0);
                x.set(3, 0, 0);
                Check.due("to " + to + " from " + from, x.copy(), to == 0 && from == 0 ? 400 : 0);
            }
        }
        x.set(0, -32768, 0);
        x.set(2, -32768, 0);
        Check.due("from the lowest to -1", x.copy(), 0);
        x.set(0, -32767, 0);
        x.set(2, -32767, 0);
        Check.due("from -32767 to -1", x.copy(), 0);
        x.set(0, -32766, 0);
        x.set(2, -32766, 0);
        Check.due("from -32766 to 0", x.copy(), 10);
    }

    private static void overlapping() {
        for (int dy = -3; dy <= 3; dy++) {
            for (int dx = -37; dx <= 37; dx++) {
                overlapping(dx, dy);
            }
        }
    }

    private static void overlapping(int dx, int dy) {
        BitCopier x = wide(100, 8);
        int noise = 12345;
        int[] before = new int[56];
        for (int i = 0; i < 56; i++) {
            noise = noise * 1103515245 + 12345;
            x.put(0, i, noise >>> 8);
            before[i] = x.word(0, i);
        }
        x.forms(0, 0, -1);
        x.set(2, 20, 3);
        x.set(0, 20 + dx, 3 + dy);
        x.set(1, 41, 2);
        x.set(3, 1, 0);
        int counted = 0;
        boolean right = true;
        int answer = x.copy();
        int[] after = new int[56];
        for (int i = 0; i < 56; i++) {
            after[i] = x.word(0, i);
        }
        for (int yy = 0; yy < 8; yy++) {
            for (int xx = 0; xx < 100; xx++) {
                int i = xx - 20 - dx;
                int j = yy - 3 - dy;
                boolean counts = i >= 0 && i < 41 && j >= 0 && j < 2 && xx >= 1;
                counted += counts ? 1 : 0;
                int due = counts ? bitOf(before, 20 + i, 3 + j) : bitOf(before, xx, yy);
                right &= bitOf(after, xx, yy) == due;
            }
        }
        Check.due("counted, moved by " + dx + " " + dy, answer, counted);
        Check.due("bits, moved by " + dx + " " + dy, right, true);
    }

    /** Of words in rows of 7: an object answers 512 calls, too few to ask for each bit. */
    private static int bitOf(int[] words, int xx, int yy) {
        return words[yy * 7 + xx / 16] >> 15 - xx % 16 & 1;
    }

    private static void patternModulo() {
        BitCopier x = wide(40, 35);
        int[] rows = new int[16];
        for (int i = 0; i < 16; i++) {
            rows[i] = 1 << i | 0x8000 >>> i * 3 % 16;
            x.put(1, i, rows[i]);
        }
        x.forms(0, -1, 1);
        x.set(0, 3, 5);
        x.set(2, 9, 9);
        Check.due("copy", x.copy(), 37 * 30);
        int[] masks = {0x1FFF, 0xFFFF, 0xFF00};
        for (int i = 0; i < 105; i++) {
            int due = i / 3 < 5 ? 0 : rows[i / 3 % 16] & masks[i % 3];
            Check.due("word " + i, x.word(0, i), due);
        }
    }

    private static void patternIsTarget() {
        BitCopier x = new BitCopier();
        x.set(1, 16, 16);
        for (int i = 0; i < 16; i++) {
            x.put(0, i, 0x1234 + 0x0F0F * i);
        }
        x.forms(0, -1, 0);
        x.rule(6);
        Check.due("copy", x.copy(), 256);
        Check.due("a pattern xor itself", x.count(0), 0);
        x.rule(8);
        x.copy();
        Check.due("neither", x.count(0), 256);
    }

    private static void patternIsSource() {
        BitCopier x = new BitCopier();
        x.put(0, 0, 0xF0C0);
        x.put(0, 1, 0x00FF);
        x.put(0, 2, 0xFFFF);
        x.forms(0, 0, 0);
        x.set(1, 14, 2);
        x.set(0, 2, 1);
        Check.due("all three are one form", x.copy(), 28);
        Check.due("first row", x.word(0, 0), 0xF0C0);
        Check.due("second row", x.word(0, 1), 0xF0C0 >>> 2 & 0x00FF);
        Check.due("third row", x.word(0, 2), 0xC000 | 0x00FF >>> 2);
    }

    private static void patternFitsNoMore() {
        BitCopier x = new BitCopier();
        x.set(1, 16, 16);
        x.forms(0, -1, 1);
        x.form(1, 16, 17);
        Check.due("too high", x.copy(), -1);
        x.form(1, 17, 16);
        Check.due("too wide", x.copy(), -1);
        x.form(1, 15, 16);
        Check.due("too narrow", x.copy(), -1);
        Check.due("line", x.line(1, 1), -1);
        x.set(1, 0, 0);
        Check.due("also with nothing to copy", x.copy(), -1);
        x.set(1, 16, 16);
        Check.due("nothing copied", x.count(0), 0);
        x.form(1, 16, 16);
        x.put(1, 3, 0xFFFF);
        Check.due("fits again", x.copy(), 256);
        Check.due("through the new pattern", x.count(0), 16);
    }

    private static void bitsBehindTheWidth() {
        BitCopier x = wide(21, 3);
        x.set(1, 32767, 32767);
        x.set(4, 32767, 32767);
        x.rule(15);
        Check.due("copy", x.copy(), 63);
        Check.due("last word", x.word(0, 5), 0xF800);
        x.rule(0);
        x.copy();
        Check.due("cleared", x.count(0), 0);
        x.form(1, 40, 3);
        x.forms(0, 1, -1);
        x.rule(12);
        Check.due("copy a wider source", x.copy(), 63);
        Check.due("last word again", x.word(0, 5), 0xF800);
        Check.due("count", x.count(0), 63);
    }

    private static void widest() {
        BitCopier x = new BitCopier();
        x.form(0, 64000, 1);
        x.form(1, 64000, 1);
        x.put(0, 3999, 1);
        x.put(0, 0, 0x8000);
        x.forms(1, 0, -1);
        x.set(1, 32767, 1);
        x.set(4, 32767, 1);
        Check.due("from the start", x.copy(), 32767);
        x.set(0, 32767, 0);
        x.set(2, 32767, 0);
        x.set(3, 32767, 0);
        Check.due("to the end", x.copy(), 64000 - 32767);
        Check.due("the last bit", x.bit(1, 63999, 0), 1);
        Check.due("the first bit", x.bit(1, 0, 0), 1);
        Check.due("all as in the source", x.same(0, 1), true);
    }
}
