import java.util.Arrays;

/**
 * Copies rectangles of bits between four forms, through a pattern and by any rule of two bits,
 * within a clipping rectangle; draws lines by copying again and again.
 */
public final class BitCopier {
    public static final int NONE = -1;

    private static final int FORM_COUNT = 4;
    private static final int MOST_WORDS = 4000;
    private static final int WORD_BITS = 16;
    private static final int WORD_MASK = 0xFFFF;
    private static final int PATTERN_SIDE = 16;

    private static final int LOWEST = -32768;
    private static final int HIGHEST = 32767;
    private static final int LONGEST_WAY = 2000;

    private static final int X = 0;
    private static final int Y = 1;

    /* The order's pairs, by the "what" of set and order. */
    private static final int TO = 0;
    private static final int SIZE = 1;
    private static final int FROM = 2;
    private static final int CLIP_PLACE = 3;
    private static final int CLIP_SIZE = 4;
    private static final int PAIRS = 5;

    private static final int RULE_COUNT = 16;
    private static final int BOTH = 1;
    private static final int SOURCE_ONLY = 2;
    private static final int TARGET_ONLY = 4;
    private static final int NEITHER = 8;

    private final Form[] allForms;
    private final int[] numbers;
    private final Reach across;
    private final Reach down;
    private Form target;
    private Form source;
    private Form pattern;
    private int ruleBits;

    public BitCopier() {
        allForms = new Form[FORM_COUNT];
        for (int f = 0; f < FORM_COUNT; f++) {
            allForms[f] = new Form();
        }
        numbers = new int[2 * PAIRS];
        numbers[2 * CLIP_SIZE + X] = 16;
        numbers[2 * CLIP_SIZE + Y] = 16;
        across = new Reach();
        down = new Reach();
        target = allForms[0];
        source = null;
        pattern = null;
        ruleBits = BOTH + SOURCE_ONLY;
    }

    public int form(int f, int width, int height) {
        int needed = wordsNeeded(width, height);
        if (!isForm(f) || needed == NONE) {
            return NONE;
        }
        allForms[f].becomeBlank(width, height, needed);
        return needed;
    }

    public boolean put(int f, int i, int w) {
        if (!isForm(f) || !allForms[f].hasWord(i)) {
            return false;
        }
        allForms[f].writeWord(i, w);
        return true;
    }

    public int word(int f, int i) {
        if (!isForm(f) || !allForms[f].hasWord(i)) {
            return NONE;
        }
        return allForms[f].words[i];
    }

    public int bit(int f, int x, int y) {
        if (!isForm(f) || !allForms[f].hasBit(x, y)) {
            return NONE;
        }
        return allForms[f].bitAt(x, y);
    }

    public int count(int f) {
        return isForm(f) ? allForms[f].ones() : NONE;
    }

    public boolean same(int f, int g) {
        return isForm(f) && isForm(g) && allForms[f].looksLike(allForms[g]);
    }

    public boolean forms(int target, int source, int pattern) {
        if (!isForm(target) || !isFormOrNone(source) || !isFormOrNone(pattern)) {
            return false;
        }
        Form tile = formOrNull(pattern);
        if (!fitsAsPattern(tile)) {
            return false;
        }
        this.target = allForms[target];
        this.source = formOrNull(source);
        this.pattern = tile;
        return true;
    }

    public boolean rule(int rule) {
        if (rule < 0 || rule >= RULE_COUNT) {
            return false;
        }
        ruleBits = rule;
        return true;
    }

    public boolean set(int what, int a, int b) {
        if (!isPair(what) || !isNumber(a) || !isNumber(b)) {
            return false;
        }
        numbers[2 * what + X] = a;
        numbers[2 * what + Y] = b;
        return true;
    }

    public int order(int what, boolean second) {
        return isPair(what) ? numbers[2 * what + (second ? Y : X)] : 0;
    }

    public int copy() {
        return fitsAsPattern(pattern) ? copyBits() : NONE;
    }

    public int line(int dx, int dy) {
        if (!isWay(dx) || !isWay(dy) || !fitsAsPattern(pattern)) {
            return NONE;
        }
        if (Math.abs(dx) > Math.abs(dy)) {
            return drawAlong(X, dx, dy);
        }
        return drawAlong(Y, dy, dx);
    }

    private static boolean isForm(int f) {
        return f >= 0 && f < FORM_COUNT;
    }

    private static boolean isFormOrNone(int f) {
        return f == NONE || isForm(f);
    }

    private Form formOrNull(int f) {
        return isForm(f) ? allForms[f] : null;
    }

    private static boolean fitsAsPattern(Form tile) {
        return tile == null || tile.width == PATTERN_SIDE && tile.height == PATTERN_SIDE;
    }

    private static boolean isPair(int what) {
        return what >= 0 && what < PAIRS;
    }

    private static boolean isNumber(int n) {
        return n >= LOWEST && n <= HIGHEST;
    }

    private static boolean isWay(int way) {
        return way >= -LONGEST_WAY && way <= LONGEST_WAY;
    }

    private static int signOf(int n) {
        return n > 0 ? 1 : n < 0 ? -1 : 0;
    }

    /** How many words such a form has, or NONE when there may be no such form. */
    private static int wordsNeeded(int width, int height) {
        // Each side is bounded first, so that the product below can not wrap round.
        if (width < 1 || height < 1 || width > MOST_WORDS * WORD_BITS || height > MOST_WORDS) {
            return NONE;
        }
        int needed = wordsPerRow(width) * height;
        return needed > MOST_WORDS ? NONE : needed;
    }

    private static int wordsPerRow(int width) {
        return (width + WORD_BITS - 1) / WORD_BITS;
    }

    /** The bits of a row's word k that stand at x = start .. end - 1. */
    private static int spanMask(int k, int start, int end) {
        int first = Math.max(start - k * WORD_BITS, 0);
        int behind = Math.min(end - k * WORD_BITS, WORD_BITS);
        return (WORD_MASK >>> first) & ~(WORD_MASK >>> behind);
    }

    private int drawAlong(int axis, int way, int sideWay) {
        int steps = Math.abs(way);
        int rest = steps / 2;
        int counted = copyBits();
        for (int step = 1; step <= steps; step++) {
            if (!moveTo(axis, signOf(way))) {
                return counted;
            }
            rest -= Math.abs(sideWay);
            if (rest < 0) {
                // The step along the axis stands, even when this one ends the line.
                if (!moveTo(Y - axis, signOf(sideWay))) {
                    return counted;
                }
                rest += steps;
            }
            if (step < steps) {
                counted += copyBits();
            }
        }
        return counted;
    }

    /** Whether the place could move without leaving the order's numbers. */
    private boolean moveTo(int axis, int by) {
        int moved = numbers[2 * TO + axis] + by;
        if (!isNumber(moved)) {
            return false;
        }
        numbers[2 * TO + axis] = moved;
        return true;
    }

    /*
     * Source and target may be one form. Going towards the side where the source bits lie,
     * by rows and within a row by words, never reads a source word that was already written.
     */
    private int copyBits() {
        findReach(across, X);
        findReach(down, Y);
        int columns = across.length();
        int rows = down.length();
        if (columns == 0 || rows == 0) {
            return 0;
        }
        boolean upwards = down.shift < 0;
        for (int n = 0; n < rows; n++) {
            copyRow(upwards ? down.end - 1 - n : down.start + n);
        }
        return columns * rows;
    }

    private void findReach(Reach reach, int axis) {
        reach.begin(numbers[2 * TO + axis], numbers[2 * SIZE + axis], numbers[2 * FROM + axis]);
        reach.narrow(numbers[2 * CLIP_PLACE + axis], numbers[2 * CLIP_SIZE + axis]);
        reach.narrow(0, target.lengthAlong(axis));
        if (source != null) {
            reach.narrow(-reach.shift, source.lengthAlong(axis));
        }
    }

    private void copyRow(int y) {
        boolean leftwards = across.shift < 0;
        int first = across.start / WORD_BITS;
        int last = (across.end - 1) / WORD_BITS;
        for (int n = 0; n <= last - first; n++) {
            int k = leftwards ? last - n : first + n;
            int at = y * target.rowWords + k;
            int old = target.words[at];
            int mask = spanMask(k, across.start, across.end);
            target.words[at] = old & ~mask | byRule(incoming(k, y), old) & mask;
        }
    }

    /*
     * A pattern that is the target itself needs no copy kept: it is one word wide and 16 rows high
     * then, so each of its words is read here just before that same word is written.
     */
    private int incoming(int k, int y) {
        int bits = WORD_MASK;
        if (source != null) {
            bits = source.bitsFrom(k * WORD_BITS + across.shift, y + down.shift);
        }
        if (pattern != null) {
            bits &= pattern.words[y % PATTERN_SIDE];
        }
        return bits;
    }

    private int byRule(int s, int d) {
        int result = 0;
        if ((ruleBits & BOTH) != 0) {
            result |= s & d;
        }
        if ((ruleBits & SOURCE_ONLY) != 0) {
            result |= s & ~d;
        }
        if ((ruleBits & TARGET_ONLY) != 0) {
            result |= ~s & d;
        }
        if ((ruleBits & NEITHER) != 0) {
            result |= ~s & ~d;
        }
        return result;
    }

    private static final class Form {
        private int width;
        private int height;
        private int rowWords;
        private int[] words;

        Form() {
            width = 16;
            height = 16;
            rowWords = 1;
            words = new int[16];
        }

        int lengthAlong(int axis) {
            return axis == X ? width : height;
        }

        int wordCount() {
            return rowWords * height;
        }

        boolean hasWord(int i) {
            return i >= 0 && i < wordCount();
        }

        boolean hasBit(int x, int y) {
            return x >= 0 && x < width && y >= 0 && y < height;
        }

        void becomeBlank(int newWidth, int newHeight, int needed) {
            // The row of words is used again where it is long enough, and at least doubled where
            // not, so that a run of many calls makes few of them.
            if (words.length < needed) {
                words = new int[Math.min(Math.max(needed, 2 * words.length), MOST_WORDS)];
            } else {
                Arrays.fill(words, 0);
            }
            width = newWidth;
            height = newHeight;
            rowWords = wordsPerRow(newWidth);
        }

        void writeWord(int i, int w) {
            words[i] = w & spanMask(i % rowWords, 0, width);
        }

        int bitAt(int x, int y) {
            int word = words[y * rowWords + x / WORD_BITS];
            return word >>> (WORD_BITS - 1 - x % WORD_BITS) & 1;
        }

        int ones() {
            int sum = 0;
            for (int i = 0; i < wordCount(); i++) {
                sum += Integer.bitCount(words[i]);
            }
            return sum;
        }

        boolean looksLike(Form other) {
            if (width != other.width || height != other.height) {
                return false;
            }
            for (int i = 0; i < wordCount(); i++) {
                if (words[i] != other.words[i]) {
                    return false;
                }
            }
            return true;
        }

        /** The 16 bits of row y from x on; where the row has none, they are 0. */
        int bitsFrom(int x, int y) {
            int k = Math.floorDiv(x, WORD_BITS);
            int two = wordInRow(k, y) << WORD_BITS | wordInRow(k + 1, y);
            return two >>> (WORD_BITS - Math.floorMod(x, WORD_BITS)) & WORD_MASK;
        }

        private int wordInRow(int k, int y) {
            return k >= 0 && k < rowWords && y >= 0 && y < height ? words[y * rowWords + k] : 0;
        }
    }

    /** Along one axis: the places of the target that count, and how far off their source bits are. */
    private static final class Reach {
        private int start;
        private int end;
        private int shift;

        void begin(int to, int size, int from) {
            start = to;
            end = to + size;
            shift = from - to;
        }

        void narrow(int place, int length) {
            start = Math.max(start, place);
            end = Math.min(end, place + length);
        }

        int length() {
            return Math.max(end - start, 0);
        }
    }
}
