/** Promises 1 to 7: a new object's forms; form, put, word, bit, count, same. */
public final class FormsTest {
    private static final int[] NO_FORMS = {-1, 4, 5, Integer.MIN_VALUE, Integer.MAX_VALUE};

    public static void main(String[] args) {
        newForms();
        formSizes();
        formClears();
        formRefuses();
        putMasks();
        putRefuses();
        words();
        bits();
        counts();
        sameness();
        Check.end();
    }

    private static void newForms() {
        BitCopier x = new BitCopier();
        for (int f = 0; f < 4; f++) {
            Check.due("new: last word", x.word(f, 15), 0);
            Check.due("new: word behind", x.word(f, 16), -1);
            Check.due("new: last bit", x.bit(f, 15, 15), 0);
            Check.due("new: x behind", x.bit(f, 16, 15), -1);
            Check.due("new: y behind", x.bit(f, 15, 16), -1);
            Check.due("new: count", x.count(f), 0);
            Check.due("new: same", x.same(0, f), true);
        }
    }

    private static void formSizes() {
        BitCopier x = new BitCopier();
        int[][] widthHeightWords = {
            {1, 1, 1}, {15, 2, 2}, {16, 2, 2}, {17, 2, 4}, {32, 3, 6}, {33, 3, 9},
            {64000, 1, 4000}, {63985, 1, 4000}, {63984, 1, 3999}, {1, 4000, 4000}, {16, 4000, 4000},
            {17, 2000, 4000}, {33, 1333, 3999}, {1000, 63, 3969},
        };
        for (int[] row : widthHeightWords) {
            Check.due("form " + row[0] + " " + row[1], x.form(2, row[0], row[1]), row[2]);
            Check.due("its last bit", x.bit(2, row[0] - 1, row[1] - 1), 0);
            Check.due("its last word", x.word(2, row[2] - 1), 0);
            Check.due("no word behind", x.word(2, row[2]), -1);
        }
    }

    private static void formClears() {
        BitCopier x = new BitCopier();
        int[][] sizes = {{16, 16}, {40, 30}, {3, 3}, {100, 10}, {16, 16}, {320, 1}, {1, 30}};
        for (int[] size : sizes) {
            int words = x.form(1, size[0], size[1]);
            Check.due("cleared", x.count(1), 0);
            for (int i = 0; i < words; i++) {
                x.put(1, i, -1);
            }
            Check.due("full", x.count(1), size[0] * size[1]);
        }
        x.form(1, 1, 30);
        Check.due("the same size cleared", x.count(1), 0);
        Check.due("the others untouched", x.word(0, 15), 0);
        Check.due("the others' size", x.word(0, 16), -1);
    }

    private static void formRefuses() {
        BitCopier x = new BitCopier();
        x.form(1, 20, 5);
        x.put(1, 0, 0x8421);
        int max = Integer.MAX_VALUE;
        int min = Integer.MIN_VALUE;
        int[][] wrong = {
            {0, 5}, {5, 0}, {0, 0}, {-1, 5}, {5, -1}, {-1, -1}, {min, min}, {min, 1}, {1, min},
            {64001, 1}, {1, 4001}, {17, 2001}, {33, 1334}, {64000, 2}, {2, 64000}, {64000, 4000},
            {max, 1}, {1, max}, {max, max}, {max - 14, 1}, {65536 * 16, 65536}, {16, 1 << 28},
            {32, 1 << 30}, {64, 1 << 30}, {33, 1431655766}, {64000, 1 << 20},
        };
        for (int[] size : wrong) {
            Check.due("form " + size[0] + " " + size[1], x.form(1, size[0], size[1]), -1);
        }
        for (int f : NO_FORMS) {
            Check.due("form of " + f, x.form(f, 16, 16), -1);
        }
        Check.due("kept its bits", x.word(1, 0), 0x8421);
        Check.due("kept its width", x.bit(1, 19, 4), 0);
        Check.due("kept its end", x.bit(1, 20, 4), -1);
    }

    private static void putMasks() {
        BitCopier x = new BitCopier();
        for (int width = 1; width <= 34; width++) {
            x.form(0, width, 2);
            int row = (width + 15) / 16;
            int lastMask = 0xFFFF << (row * 16 - width) & 0xFFFF;
            for (int i = 0; i < 2 * row; i++) {
                Check.due("put", x.put(0, i, -1), true);
                Check.due("width " + width + " word " + i, x.word(0, i), i % row == row - 1 ? lastMask : 0xFFFF);
            }
            Check.due("all bits", x.count(0), 2 * width);
        }
        x.form(0, 20, 1);
        x.put(0, 0, 0x7FFF1234);
        Check.due("the lowest 16 bits", x.word(0, 0), 0x1234);
        x.put(0, 0, 0xFFFF0000);
        Check.due("the lowest 16 bits, 0", x.word(0, 0), 0);
        x.put(0, 1, 0x0FFF);
        Check.due("no bits of the form", x.word(0, 1), 0);
    }

    private static void putRefuses() {
        BitCopier x = new BitCopier();
        x.form(3, 20, 3);
        int[] noWords = {-1, 6, 7, 16, 4000, Integer.MIN_VALUE, Integer.MAX_VALUE};
        for (int i : noWords) {
            Check.due("put " + i, x.put(3, i, -1), false);
            Check.due("word " + i, x.word(3, i), -1);
        }
        for (int f : NO_FORMS) {
            Check.due("put of " + f, x.put(f, 0, -1), false);
            Check.due("word of " + f, x.word(f, 0), -1);
        }
        for (int f = 0; f < 4; f++) {
            Check.due("nothing put", x.count(f), 0);
        }
    }

    private static void words() {
        BitCopier x = new BitCopier();
        x.form(0, 48, 2);
        for (int i = 0; i < 6; i++) {
            x.put(0, i, 0xF000 + i);
        }
        for (int i = 0; i < 6; i++) {
            Check.due("word " + i, x.word(0, i), 0xF000 + i);
            Check.due("its lowest bit", x.bit(0, i % 3 * 16 + 15, i / 3), i % 2);
        }
    }

    private static void bits() {
        BitCopier x = new BitCopier();
        x.form(2, 40, 3);
        x.put(2, 0, 0x8000);
        x.put(2, 4, 0x0001);
        x.put(2, 8, 0x0100);
        for (int yy = 0; yy < 3; yy++) {
            for (int xx = 0; xx < 40; xx++) {
                boolean one = xx == 0 && yy == 0 || xx == 31 && yy == 1 || xx == 39 && yy == 2;
                Check.due("bit " + xx + " " + yy, x.bit(2, xx, yy), one ? 1 : 0);
            }
        }
        int[][] none = {
            {-1, 0}, {0, -1}, {40, 0}, {0, 3}, {47, 2}, {Integer.MIN_VALUE, 0}, {0, Integer.MIN_VALUE},
            {Integer.MAX_VALUE, 0}, {0, Integer.MAX_VALUE}, {48, 0}, {-16, 1},
        };
        for (int[] at : none) {
            Check.due("bit " + at[0] + " " + at[1], x.bit(2, at[0], at[1]), -1);
        }
        for (int f : NO_FORMS) {
            Check.due("bit of " + f, x.bit(f, 0, 0), -1);
        }
    }

    private static void counts() {
        BitCopier x = new BitCopier();
        x.form(0, 33, 2);
        x.put(0, 0, 0x0F01);
        x.put(0, 2, 0x8001);
        x.put(0, 5, 0x8000);
        Check.due("count", x.count(0), 7);
        for (int f : NO_FORMS) {
            Check.due("count of " + f, x.count(f), -1);
        }
    }

    private static void sameness() {
        BitCopier x = new BitCopier();
        x.form(0, 20, 2);
        x.form(1, 20, 2);
        Check.due("blank ones", x.same(0, 1), true);
        Check.due("wider", x.form(2, 21, 2) > 0 && x.same(0, 2), false);
        Check.due("higher", x.form(2, 20, 3) > 0 && x.same(0, 2), false);
        Check.due("lower", x.form(2, 20, 1) > 0 && x.same(0, 2), false);
        Check.due("as many words", x.form(2, 40, 1) > 0 && x.same(0, 2), false);
        x.put(0, 3, 0x1000);
        Check.due("another last bit", x.same(0, 1), false);
        Check.due("the other way", x.same(1, 0), false);
        x.put(1, 3, 0x1FFF);
        Check.due("the same last bit", x.same(0, 1), true);
        x.put(1, 0, 0x8000);
        Check.due("another first bit", x.same(0, 1), false);
        Check.due("itself", x.same(1, 1), true);
        x.form(3, 100, 10);
        x.put(3, 60, -1);
        x.form(3, 20, 2);
        x.form(2, 20, 2);
        Check.due("after having been larger", x.same(2, 3), true);
        for (int f : NO_FORMS) {
            Check.due("same " + f + " 0", x.same(f, 0), false);
            Check.due("same 0 " + f, x.same(0, f), false);
            Check.due("same " + f + " " + f, x.same(f, f), false);
        }
    }
}
