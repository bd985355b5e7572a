/** Promise 13: line, at the edges that the document names. */
public final class LineTest {
    public static void main(String[] args) {
        noWay();
        alongX();
        alongY();
        diagonal();
        smallSteps();
        brush();
        withinOneForm();
        refuses();
        longest();
        leavingAlong();
        leavingAside();
        Check.end();
    }

    private static BitCopier pen(int toX, int toY) {
        BitCopier x = new BitCopier();
        x.form(0, 60, 40);
        x.set(4, 60, 40);
        x.set(1, 1, 1);
        x.set(0, toX, toY);
        return x;
    }

    private static void at(String call, BitCopier x, int toX, int toY) {
        Check.due(call + ": to's x", x.order(0, false), toX);
        Check.due(call + ": to's y", x.order(0, true), toY);
    }

    private static void noWay() {
        BitCopier x = pen(5, 6);
        Check.due("line(0, 0)", x.line(0, 0), 1);
        Check.due("its bit", x.bit(0, 5, 6), 1);
        Check.due("no other", x.count(0), 1);
        at("line(0, 0)", x, 5, 6);
    }

    private static void alongX() {
        BitCopier x = pen(30, 6);
        Check.due("line(9, 0)", x.line(9, 0), 9);
        at("line(9, 0)", x, 39, 6);
        Check.due("its last bit", x.bit(0, 38, 6), 1);
        Check.due("not the end", x.bit(0, 39, 6), 0);
        Check.due("line(-9, 0)", x.line(-9, 0), 9);
        at("line(-9, 0)", x, 30, 6);
        Check.due("now the end", x.bit(0, 39, 6), 1);
        Check.due("count", x.count(0), 10);
    }

    private static void alongY() {
        BitCopier x = pen(30, 6);
        Check.due("line(0, 9)", x.line(0, 9), 9);
        at("line(0, 9)", x, 30, 15);
        Check.due("line(0, -12)", x.line(0, -12), 12);
        at("line(0, -12)", x, 30, 3);
        Check.due("count", x.count(0), 12);
        Check.due("lowest", x.bit(0, 30, 15), 1);
        Check.due("highest", x.bit(0, 30, 4), 1);
        Check.due("not the end", x.bit(0, 30, 3), 0);
    }

    private static void diagonal() {
        int[][] ways = {{5, 5}, {-5, 5}, {5, -5}, {-5, -5}};
        for (int[] way : ways) {
            BitCopier x = pen(30, 20);
            Check.due("diagonal", x.line(way[0], way[1]), 5);
            at("diagonal", x, 30 + way[0], 20 + way[1]);
            // As long both ways, y leads: p = 5 / 2 falls below 0 at once, and x moves each time.
            for (int i = 0; i < 5; i++) {
                Check.due("its bit", x.bit(0, 30 + i * way[0] / 5, 20 + i * way[1] / 5), 1);
            }
        }
    }

    /** p is 3, then 0, -3 + 7, 1, -2 + 7, 2, -1 + 7, 3: it goes aside at the 2nd, 4th and 6th time. */
    private static void smallSteps() {
        int[] aside = {0, 0, 1, 1, 2, 2, 3};
        BitCopier x = pen(10, 10);
        Check.due("line(7, -3)", x.line(7, -3), 7);
        at("line(7, -3)", x, 17, 7);
        BitCopier over = pen(10, 10);
        Check.due("line(-3, 7)", over.line(-3, 7), 7);
        at("line(-3, 7)", over, 7, 17);
        for (int i = 0; i < 7; i++) {
            Check.due("bit of column " + i, x.bit(0, 10 + i, 10 - aside[i]), 1);
            Check.due("bit of row " + i, over.bit(0, 10 - aside[i], 10 + i), 1);
        }
        Check.due("count", x.count(0), 7);
        Check.due("count over", over.count(0), 7);
    }

    private static void brush() {
        BitCopier x = pen(57, 5);
        x.set(1, 4, 2);
        x.rule(6);
        Check.due("line(3, 0), partly outside", x.line(3, 0), 6 + 4 + 2);
        Check.due("turned over again and again", x.count(0), 2 + 2);
        Check.due("once", x.bit(0, 57, 5), 1);
        Check.due("twice", x.bit(0, 58, 5), 0);
        Check.due("thrice", x.bit(0, 59, 6), 1);
    }

    /** Each copy takes what the one before it left. */
    private static void withinOneForm() {
        BitCopier x = pen(1, 0);
        x.put(0, 0, 0x8000);
        x.forms(0, 0, -1);
        x.set(1, 60, 1);
        Check.due("line(3, 0)", x.line(3, 0), 59 + 58 + 57);
        // Moved by 1 (bits 0, 1), by 2 (bits 2, 3 from 0, 1), by 3 (bits 3 .. 6 from 0 .. 3).
        Check.due("first word", x.word(0, 0), 0xFE00);
        Check.due("from's place stays", x.order(2, false), 0);
    }

    private static void refuses() {
        BitCopier x = pen(5, 6);
        int[] wrong = {2001, -2001, 32768, Integer.MAX_VALUE, Integer.MIN_VALUE};
        for (int way : wrong) {
            Check.due("line(" + way + ", 0)", x.line(way, 0), -1);
            Check.due("line(0, " + way + ")", x.line(0, way), -1);
            Check.due("line(" + way + ", " + way + ")", x.line(way, way), -1);
        }
        x.forms(0, -1, 1);
        x.form(1, 16, 15);
        Check.due("the pattern fits no more", x.line(3, 4), -1);
        Check.due("nothing copied", x.count(0), 0);
        at("refused", x, 5, 6);
    }

    private static void longest() {
        BitCopier x = pen(0, 0);
        Check.due("line(2000, 0)", x.line(2000, 0), 60);
        at("line(2000, 0)", x, 2000, 0);
        Check.due("line(-2000, 2000)", x.line(-2000, 2000), 0);
        at("line(-2000, 2000)", x, 0, 2000);
        Check.due("line(0, -2000)", x.line(0, -2000), 39);
        at("line(0, -2000)", x, 0, 0);
        x.form(0, 64000, 1);
        x.set(1, 32767, 1);
        x.set(4, 32767, 1);
        int sum = 0;
        for (int i = 0; i < 2000; i++) {
            sum += 32767 - i;
        }
        Check.due("the longest of the widest", x.line(2000, 0), sum);
    }

    private static void leavingAlong() {
        BitCopier x = new BitCopier();
        x.form(0, 64000, 1);
        x.set(1, 1, 1);
        x.set(3, 32700, 0);
        x.set(4, 1000, 1);
        x.set(0, 32760, 0);
        Check.due("over the highest x", x.line(20, 0), 8);
        at("over the highest x", x, 32767, 0);
        Check.due("again", x.line(20, 0), 1);
        Check.due("its bits", x.count(0), 8);
        x.set(0, -32760, 5);
        Check.due("over the lowest x", x.line(-20, 0), 0);
        at("over the lowest x", x, -32768, 5);
        x.set(0, 5, 32760);
        Check.due("over the highest y", x.line(0, 20), 0);
        at("over the highest y", x, 5, 32767);
        x.set(0, 5, -32760);
        Check.due("over the lowest y", x.line(0, -20), 0);
        at("over the lowest y", x, 5, -32768);
        x.set(0, 32760, 0);
        Check.due("just to the highest x", x.line(7, 0), 7);
        at("just to the highest x", x, 32767, 0);
    }

    /** The step along stands, the one aside does not: the line ends before just that. */
    private static void leavingAside() {
        BitCopier x = pen(32760, 32767);
        x.line(20, 3);
        at("line(20, 3)", x, 32764, 32767);
        x.set(0, -100, -32768);
        x.line(-20, -3);
        at("line(-20, -3)", x, -104, -32768);
        x.set(0, 32767, 100);
        x.line(3, -20);
        at("line(3, -20)", x, 32767, 96);
        x.set(0, -32768, 100);
        x.line(-3, 20);
        at("line(-3, 20)", x, -32768, 104);
        x.set(0, 32766, 32767);
        x.line(5, 5);
        at("line(5, 5)", x, 32766, 32767);
    }
}
