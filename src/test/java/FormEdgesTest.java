/** The boundary cases of promises 1 to 7 and of the paragraph FORMS, each on both sides. */
public final class FormEdgesTest {
    private static final int MIN = Integer.MIN_VALUE;
    private static final int MAX = Integer.MAX_VALUE;
    private static final int[] NO_FORMS = {-1, 4, -2, 5, MIN, MAX};

    public static void main(String[] args) {
        newFormsAre16By16();
        newClipIs16By16();
        noSuchForm();
        widthOrHeightBelow1();
        atMost4000Words();
        wordsThatWrapAround();
        formClearsWhateverWasThere();
        refusedFormChangesNothing();
        lowest16Bits();
        putLeavesNoBitsBehindTheWidth();
        firstAndLastWord();
        wordsFrom0To65535();
        firstAndLastBit();
        emptyAndFull();
        sameAtEachEdge();
        bitsBehindTheWidthStay0();
        Check.end();
    }

    /** Promise 1: "All forms are 16 wide and 16 high, all bits 0". */
    private static void newFormsAre16By16() {
        for (int f = 0; f < 4; f++) {
            BitCopier x = new BitCopier();
            for (int i = 0; i < 16; i++) {
                Check.due("new word", x.word(f, i), 0);
            }
            Check.due("new word 16", x.word(f, 16), -1);
            Check.due("new bit 15 0", x.bit(f, 15, 0), 0);
            Check.due("new bit 16 0", x.bit(f, 16, 0), -1);
            Check.due("new bit 0 15", x.bit(f, 0, 15), 0);
            Check.due("new bit 0 16", x.bit(f, 0, 16), -1);
            Check.due("fits as a pattern", x.forms(0, -1, f), true);
        }
    }

    /** Promise 1: "the clip is 0, 0, 16, 16", seen in a form that is larger. */
    private static void newClipIs16By16() {
        BitCopier x = new BitCopier();
        x.form(0, 40, 40);
        x.set(0, -5, -5);
        x.set(1, 45, 45);
        Check.due("new clip", x.copy(), 256);
        Check.due("in its corner", x.bit(0, 15, 15), 1);
        Check.due("right of it", x.bit(0, 16, 15), 0);
        Check.due("below it", x.bit(0, 15, 16), 0);
    }

    /** Promises 2 to 7: "no such form". */
    private static void noSuchForm() {
        for (int f : NO_FORMS) {
            BitCopier x = new BitCopier();
            Check.due("form of " + f, x.form(f, 20, 20), -1);
            Check.due("put of " + f, x.put(f, 0, -1), false);
            Check.due("word of " + f, x.word(f, 0), -1);
            Check.due("bit of " + f, x.bit(f, 0, 0), -1);
            Check.due("count of " + f, x.count(f), -1);
            Check.due("same " + f + " 0", x.same(f, 0), false);
            Check.due("same 0 " + f, x.same(0, f), false);
            Check.due("same " + f + " " + f, x.same(f, f), false);
            for (int g = 0; g < 4; g++) {
                Check.due("untouched", x.count(g), 0);
                Check.due("no larger", x.word(g, 16), -1);
            }
        }
        int[] firstAndLast = {0, 3};
        for (int f : firstAndLast) {
            BitCopier x = new BitCopier();
            Check.due("form of " + f, x.form(f, 20, 20), 40);
            Check.due("put of " + f, x.put(f, 39, -1), true);
            Check.due("word of " + f, x.word(f, 39), 0xF000);
            Check.due("bit of " + f, x.bit(f, 19, 19), 1);
            Check.due("count of " + f, x.count(f), 4);
            Check.due("same " + f + " " + f, x.same(f, f), true);
            Check.due("same " + f + " 1", x.same(f, 1), false);
            for (int g = 0; g < 4; g++) {
                Check.due("form " + g + " alone is changed", x.count(g), g == f ? 4 : 0);
            }
        }
    }

    /** Promise 2: "NONE when .. width or height is below 1". */
    private static void widthOrHeightBelow1() {
        BitCopier x = new BitCopier();
        int[] below = {0, -1, -15, -16, -17, MIN};
        for (int n : below) {
            Check.due("width " + n, x.form(1, n, 1), -1);
            Check.due("height " + n, x.form(1, 1, n), -1);
            Check.due("both " + n, x.form(1, n, n), -1);
        }
        Check.due("width and height 1", x.form(1, 1, 1), 1);
        Check.due("its only bit", x.bit(1, 0, 0), 0);
        Check.due("right of it", x.bit(1, 1, 0), -1);
        Check.due("below it", x.bit(1, 0, 1), -1);
        Check.due("width 1", x.form(1, 1, 2), 2);
        Check.due("height 1", x.form(1, 2, 1), 1);
    }

    /** Promise 2: "or it would have more than 4000 words", for every number of words in a row. */
    private static void atMost4000Words() {
        for (int row = 1; row <= 4000; row++) {
            BitCopier x = new BitCopier();
            int height = 4000 / row;
            int narrowest = 16 * row - 15;
            int widest = 16 * row;
            Check.due("narrowest of " + row, x.form(2, narrowest, height), row * height);
            Check.due("its last bit", x.bit(2, narrowest - 1, height - 1), 0);
            Check.due("a row more", x.form(2, narrowest, height + 1), -1);
            Check.due("widest of " + row, x.form(2, widest, height), row * height);
            Check.due("its last word", x.word(2, row * height - 1), 0);
            Check.due("no word behind", x.word(2, row * height), -1);
            Check.due("a row more", x.form(2, widest, height + 1), -1);
            boolean fits = (row + 1) * height <= 4000;
            Check.due("a bit wider", x.form(2, widest + 1, height), fits ? (row + 1) * height : -1);
        }
        BitCopier x = new BitCopier();
        Check.due("all words in one row", x.form(0, 64000, 1), 4000);
        Check.due("a bit too wide", x.form(0, 64001, 1), -1);
        Check.due("a word in each row", x.form(0, 1, 4000), 4000);
        Check.due("a row too high", x.form(0, 1, 4001), -1);
        for (int f = 0; f < 4; f++) {
            Check.due("as large a form " + f, x.form(f, 64000, 1), 4000);
        }
        for (int f = 0; f < 4; f++) {
            x.put(f, 3999, f + 1);
        }
        for (int f = 0; f < 4; f++) {
            Check.due("has its own words", x.word(f, 3999), f + 1);
        }
    }

    /** Promise 2: widths and heights whose product, or sum with 15, wraps around to a small number. */
    private static void wordsThatWrapAround() {
        int[][] sizes = {
            {MAX, 1}, {MAX - 14, 1}, {MAX - 15, 1}, {1, MAX}, {MAX, MAX}, {MAX - 15, MAX},
            {16 * 65536, 65536}, {32, 1 << 31 >>> 1}, {64, 1 << 30}, {32, (1 << 30) + 1000},
            {48, 1431655766}, {80, 858993460}, {16, MAX - 1}, {64000, 1073742}, {17, 1 << 30},
        };
        for (int[] size : sizes) {
            BitCopier x = new BitCopier();
            Check.due("form " + size[0] + " " + size[1], x.form(0, size[0], size[1]), -1);
            Check.due("it is 16 by 16 still", x.forms(1, -1, 0), true);
        }
    }

    /** Promise 2: "A form becomes so wide and so high, all its bits 0." */
    private static void formClearsWhateverWasThere() {
        int[][] sizes = {{16, 16}, {1, 1}, {17, 16}, {16, 17}, {33, 5}, {64000, 1}, {1, 4000}};
        for (int[] first : sizes) {
            for (int[] second : sizes) {
                BitCopier x = new BitCopier();
                full(x, 1, first[0], first[1]);
                x.form(1, second[0], second[1]);
                Check.due("cleared", x.count(1), 0);
                full(x, 1, second[0], second[1]);
                Check.due("full", x.count(1), second[0] * second[1]);
                x.form(1, second[0], second[1]);
                Check.due("cleared as large as it was", x.count(1), 0);
            }
        }
    }

    private static void full(BitCopier x, int f, int width, int height) {
        x.form(f, width, height);
        x.forms(f, -1, -1);
        x.set(0, 0, 0);
        x.set(1, 32767, 32767);
        x.set(3, 0, 0);
        x.set(4, 32767, 32767);
        x.copy();
        // A size reaches 32767 bits at most, so a wider form takes a second copy.
        x.set(0, 32767, 0);
        x.set(3, 32767, 0);
        x.copy();
    }

    private static void refusedFormChangesNothing() {
        BitCopier x = new BitCopier();
        x.form(1, 20, 3);
        x.put(1, 5, 0x9000);
        int[][] refused = {{0, 3}, {20, 0}, {64001, 1}, {20, 2001}, {1, 4001}, {MAX, MAX}};
        for (int[] size : refused) {
            Check.due("refused", x.form(1, size[0], size[1]), -1);
            Check.due("its word", x.word(1, 5), 0x9000);
            Check.due("its count", x.count(1), 2);
            Check.due("its width", x.bit(1, 19, 2), 1);
            Check.due("not wider", x.bit(1, 20, 2), -1);
            Check.due("not higher", x.bit(1, 0, 3), -1);
        }
    }

    /** Promise 3: "w (its lowest 16 bits ..)". */
    private static void lowest16Bits() {
        int[][] putAndDue = {
            {0, 0}, {1, 1}, {0x8000, 0x8000}, {65534, 65534}, {65535, 65535}, {65536, 0}, {65537, 1},
            {-1, 65535}, {-2, 65534}, {-32768, 0x8000}, {-65536, 0}, {-65537, 65535}, {MIN, 0}, {MAX, 65535},
            {0x12345678, 0x5678},
        };
        BitCopier x = new BitCopier();
        for (int[] row : putAndDue) {
            Check.due("put " + row[0], x.put(0, 7, row[0]), true);
            Check.due("word after " + row[0], x.word(0, 7), row[1]);
            Check.due("the word before", x.word(0, 6), 0);
            Check.due("the word behind", x.word(0, 8), 0);
        }
    }

    /** Promise 3: "those that are no bits of the form stay 0". */
    private static void putLeavesNoBitsBehindTheWidth() {
        for (int width = 1; width <= 65; width++) {
            BitCopier x = new BitCopier();
            int words = x.form(0, width, 2);
            int row = words / 2;
            for (int i = 0; i < words; i++) {
                x.put(0, i, -1);
                int bits = Math.min(16, width - i % row * 16);
                Check.due("width " + width + " word " + i, x.word(0, i), 0xFFFF << 16 - bits & 0xFFFF);
            }
            Check.due("ones of width " + width, x.count(0), 2 * width);
            int behind = (1 << row * 16 - width) - 1;
            Check.due("put behind the width", x.put(0, words - 1, behind), true);
            Check.due("nothing of it", x.word(0, words - 1), 0);
        }
    }

    /** Promises 3 and 4: "no such .. word". */
    private static void firstAndLastWord() {
        int[][] sizes = {{16, 16}, {1, 1}, {17, 3}, {64000, 1}, {1, 4000}};
        for (int[] size : sizes) {
            BitCopier x = new BitCopier();
            int words = x.form(3, size[0], size[1]);
            int[] none = {-1, words, words + 1, MIN, MAX};
            for (int i : none) {
                Check.due("put " + i + " of " + words, x.put(3, i, -1), false);
                Check.due("word " + i + " of " + words, x.word(3, i), -1);
            }
            Check.due("nothing put", x.count(3), 0);
            Check.due("put first", x.put(3, 0, 0x8000), true);
            Check.due("put last", x.put(3, words - 1, 0x8000), true);
            Check.due("first", x.word(3, 0), 0x8000);
            Check.due("last", x.word(3, words - 1), 0x8000);
            Check.due("both", x.count(3), words == 1 ? 1 : 2);
        }
        BitCopier x = new BitCopier();
        x.form(0, 100, 10);
        x.form(0, 20, 2);
        Check.due("a word of the larger form it was", x.put(0, 4, -1), false);
        Check.due("its answer", x.word(0, 4), -1);
    }

    /** Promise 4: "Word i of a form, 0 .. 65535". */
    private static void wordsFrom0To65535() {
        BitCopier x = new BitCopier();
        Check.due("lowest", x.word(0, 0), 0);
        x.put(0, 0, -1);
        Check.due("highest", x.word(0, 0), 65535);
        x.set(1, 16, 16);
        x.rule(15);
        x.copy();
        Check.due("highest by a copy", x.word(0, 15), 65535);
        x.rule(0);
        x.copy();
        Check.due("lowest by a copy", x.word(0, 15), 0);
    }

    /** Promise 5: "NONE when there is no such .. bit". */
    private static void firstAndLastBit() {
        int[][] sizes = {{16, 16}, {1, 1}, {15, 2}, {17, 3}, {32, 2}, {33, 2}};
        for (int[] size : sizes) {
            BitCopier x = new BitCopier();
            full(x, 2, size[0], size[1]);
            for (int y = -1; y <= size[1]; y++) {
                edgesOfRow(x, y, size[0], y >= 0 && y < size[1]);
            }
            Check.due("lowest y", x.bit(2, 0, MIN), -1);
            Check.due("highest y", x.bit(2, 0, MAX), -1);
        }
        BitCopier x = new BitCopier();
        x.form(0, 64000, 1);
        x.put(0, 3999, 1);
        Check.due("last bit of the widest", x.bit(0, 63999, 0), 1);
        Check.due("behind the widest", x.bit(0, 64000, 0), -1);
        x.form(0, 1, 4000);
        x.put(0, 3999, 0x8000);
        Check.due("last bit of the highest", x.bit(0, 0, 3999), 1);
        Check.due("below the highest", x.bit(0, 0, 4000), -1);
    }

    private static void edgesOfRow(BitCopier x, int y, int width, boolean inside) {
        int[] none = {MIN, -16, -1, width, width + 1, width + 15, width + 16, MAX};
        for (int at : none) {
            Check.due("bit " + at + " " + y + " of width " + width, x.bit(2, at, y), -1);
        }
        Check.due("first of row " + y, x.bit(2, 0, y), inside ? 1 : -1);
        Check.due("last of row " + y, x.bit(2, width - 1, y), inside ? 1 : -1);
    }

    /** Promise 6, from a form without ones to the largest one that has no other bits. */
    private static void emptyAndFull() {
        int[][] sizes = {{1, 1}, {16, 16}, {17, 3}, {64000, 1}, {1, 4000}, {16, 4000}};
        for (int[] size : sizes) {
            BitCopier x = new BitCopier();
            x.form(0, size[0], size[1]);
            Check.due("empty", x.count(0), 0);
            full(x, 0, size[0], size[1]);
            Check.due("full", x.count(0), size[0] * size[1]);
            x.put(0, 0, 0x7FFF);
            Check.due("all but the first", x.count(0), size[0] * size[1] - (size[0] < 16 ? size[0] : 1));
        }
    }

    /** Promise 7: "as wide and as high and have the same bits". */
    private static void sameAtEachEdge() {
        int[][] others = {{17, 3}, {18, 3}, {16, 3}, {32, 3}, {33, 3}, {17, 2}, {17, 4}, {3, 17}, {48, 2}, {96, 1}};
        for (int[] size : others) {
            BitCopier x = new BitCopier();
            x.form(0, 17, 3);
            x.form(1, size[0], size[1]);
            boolean due = size[0] == 17 && size[1] == 3;
            Check.due("17 3 and " + size[0] + " " + size[1], x.same(0, 1), due);
            Check.due("the other way", x.same(1, 0), due);
        }
        for (int i = 0; i < 6; i++) {
            BitCopier x = new BitCopier();
            x.form(0, 17, 3);
            x.form(1, 17, 3);
            x.put(0, i, 0x8000);
            Check.due("word " + i + " is not the same", x.same(0, 1), false);
            x.put(1, i, 0x8000);
            Check.due("word " + i + " is the same", x.same(0, 1), true);
            x.put(1, i, i % 2 == 0 ? 0x8001 : 0xFFFF);
            Check.due("in their lowest bits, word " + i, x.same(0, 1), i % 2 == 1);
        }
    }

    /** FORMS: "Bits of a row's last word behind the width .. are 0, and stay so." */
    private static void bitsBehindTheWidthStay0() {
        for (int width = 1; width <= 33; width++) {
            for (int rule = 0; rule < 16; rule++) {
                BitCopier x = new BitCopier();
                int words = x.form(0, width, 3);
                x.set(0, -3, 0);
                x.set(1, 100, 3);
                x.set(3, -50, 0);
                x.set(4, 150, 3);
                x.rule(rule);
                x.copy();
                int ones = (rule & 2) != 0 ? 3 * width : 0;
                Check.due("width " + width + " rule " + rule, x.count(0), ones);
                x.line(5, 1);
                lastWordsAreClean(x, width, words);
            }
        }
    }

    private static void lastWordsAreClean(BitCopier x, int width, int words) {
        int row = words / 3;
        int behind = (1 << row * 16 - width) - 1;
        for (int i = row - 1; i < words; i += row) {
            Check.due("behind width " + width, x.word(0, i) & behind, 0);
        }
    }
}
