/** The boundary cases of promise 13 and of the paragraph A LINE, each on both sides. */
public final class LineEdgesTest {
    private static final int MIN = Integer.MIN_VALUE;
    private static final int MAX = Integer.MAX_VALUE;

    public static void main(String[] args) {
        waysFrom2000To2000();
        patternNot16By16AnyMore();
        noWayIsOneCopy();
        oneStepIsOneCopy();
        sizesJustAboveAndBelow();
        asLongBothWays();
        halfRoundedDown();
        asideOnlyBelow0();
        staysFor0();
        notCopiedTheLastTime();
        endsAlongX();
        endsAlongY();
        endsAside();
        countsBeforeItEndsAside();
        nothingToCopyMovesStill();
        eachCopyTakesWhatTheLastLeft();
        orderButForToStays();
        Check.end();
    }

    private static BitCopier pen(int toX, int toY) {
        BitCopier x = new BitCopier();
        x.form(0, 60, 60);
        x.set(4, 60, 60);
        x.set(1, 1, 1);
        x.set(0, toX, toY);
        return x;
    }

    private static void at(String name, BitCopier x, int toX, int toY) {
        Check.due(name + ": to's x", x.order(0, false), toX);
        Check.due(name + ": to's y", x.order(0, true), toY);
    }

    /** Draws from 20, 20, turning bits over; due are the columns and rows in their order. */
    private static void drawn(int dx, int dy, int[][] places) {
        BitCopier x = pen(20, 20);
        x.rule(6);
        String name = "line(" + dx + ", " + dy + ")";
        Check.due(name, x.line(dx, dy), places.length);
        Check.due(name + ": ones", x.count(0), places.length);
        for (int[] place : places) {
            Check.due(name + ": " + place[0] + " " + place[1], x.bit(0, 20 + place[0], 20 + place[1]), 1);
        }
        at(name, x, 20 + dx, 20 + dy);
    }

    /** "NONE when dx or dy is not -2000 .. 2000" */
    private static void waysFrom2000To2000() {
        int[] wrong = {2001, -2001, 2002, 32767, 65536, MIN, MIN + 1, MAX};
        for (int way : wrong) {
            BitCopier x = pen(5, 6);
            Check.due("line(" + way + ", 0)", x.line(way, 0), -1);
            Check.due("line(0, " + way + ")", x.line(0, way), -1);
            Check.due("line(" + way + ", 2000)", x.line(way, 2000), -1);
            Check.due("line(-2000, " + way + ")", x.line(-2000, way), -1);
            Check.due("line(" + way + ", " + way + ")", x.line(way, way), -1);
            Check.due("nothing copied", x.count(0), 0);
            at("refused", x, 5, 6);
        }
        int[] good = {-2000, -1999, 0, 1999, 2000};
        for (int dx : good) {
            for (int dy : good) {
                BitCopier x = pen(5, 6);
                Check.due("line(" + dx + ", " + dy + ")", x.line(dx, dy) > 0, true);
                at("line(" + dx + ", " + dy + ")", x, 5 + dx, 6 + dy);
            }
        }
    }

    /** "or the pattern is not 16 wide and 16 high any more" */
    private static void patternNot16By16AnyMore() {
        int[] sides = {1, 15, 16, 17, 32};
        for (int width : sides) {
            for (int height : sides) {
                BitCopier x = pen(5, 6);
                x.forms(0, -1, 1);
                x.rule(15);
                x.form(1, width, height);
                boolean fits = width == 16 && height == 16;
                String name = "pattern now " + width + " " + height;
                Check.due(name, x.line(4, 3), fits ? 4 : -1);
                at(name, x, fits ? 9 : 5, fits ? 9 : 6);
                Check.due(name + " ones", x.count(0), fits ? 4 : 0);
                x.set(0, 5, 6);
                Check.due(name + " line(0, 0)", x.line(0, 0), fits ? 1 : -1);
                Check.due(name + " line(2001, 0)", x.line(2001, 0), -1);
                x.form(1, 16, 16);
                Check.due("16 by 16 again", x.line(4, 3), 4);
            }
        }
    }

    /** "it is copied; then .. (dy's size times, if that is above 0)" */
    private static void noWayIsOneCopy() {
        drawn(0, 0, new int[][] {{0, 0}});
        int[] ends = {-32768, 32767};
        for (int a : ends) {
            for (int b : ends) {
                BitCopier x = pen(a, b);
                Check.due("line(0, 0) at " + a + " " + b, x.line(0, 0), 0);
                at("line(0, 0)", x, a, b);
            }
        }
    }

    private static void oneStepIsOneCopy() {
        for (int dx = -1; dx <= 1; dx++) {
            for (int dy = -1; dy <= 1; dy++) {
                drawn(dx, dy, new int[][] {{0, 0}});
            }
        }
    }

    /** "if dx's size is above dy's": as soon as it is so by 1. */
    private static void sizesJustAboveAndBelow() {
        int[] signs = {-1, 1};
        for (int a : signs) {
            for (int b : signs) {
                // p = 2; -1 + 4 aside, 0, -3 + 4 aside, -2 + 4 aside
                drawn(4 * a, 3 * b, new int[][] {{0, 0}, {a, b}, {2 * a, b}, {3 * a, 2 * b}});
                drawn(3 * a, 4 * b, new int[][] {{0, 0}, {a, b}, {a, 2 * b}, {2 * a, 3 * b}});
                // p = 1; -1 + 2 aside, 0
                drawn(2 * a, b, new int[][] {{0, 0}, {a, 0}});
                drawn(a, 2 * b, new int[][] {{0, 0}, {0, b}});
            }
        }
    }

    /** "Otherwise the same with x and y changed over": of two sizes alike, y goes first. */
    private static void asLongBothWays() {
        int[] signs = {-1, 1};
        for (int a : signs) {
            for (int b : signs) {
                drawn(3 * a, 3 * b, new int[][] {{0, 0}, {a, b}, {2 * a, 2 * b}});
                int edge = a > 0 ? 32767 : -32768;
                BitCopier x = pen(edge, 10);
                x.line(3 * a, 3 * b);
                at("y has moved before x can not", x, edge, 10 + b);
                edge = b > 0 ? 32767 : -32768;
                x = pen(10, edge);
                x.line(3 * a, 3 * b);
                at("y can not move, and x has not", x, 10, edge);
            }
        }
        BitCopier x = pen(32767, 10);
        x.line(4, 3);
        at("x goes first where it is longer", x, 32767, 10);
        x.line(3, 4);
        at("y goes first where it is longer", x, 32767, 11);
    }

    /** "with p = half dx's size (rounded down)" */
    private static void halfRoundedDown() {
        // p = 1; 0, -1 + 3 aside, 1: rounded up, it would have gone aside at the third time.
        drawn(3, 1, new int[][] {{0, 0}, {1, 0}, {2, 1}});
        drawn(-1, -3, new int[][] {{0, 0}, {0, -1}, {-1, -2}});
        // p = 2; 1, 0, -1 + 5 aside, 3, 2
        drawn(5, -1, new int[][] {{0, 0}, {1, 0}, {2, 0}, {3, -1}, {4, -1}});
        drawn(1, -5, new int[][] {{0, 0}, {0, -1}, {0, -2}, {1, -3}, {1, -4}});
    }

    /** "if it is below 0 then": not when it is 0. */
    private static void asideOnlyBelow0() {
        // p = 2; 0, -2 + 4 aside, 0, -2 + 4 aside
        drawn(4, 2, new int[][] {{0, 0}, {1, 0}, {2, 1}, {3, 1}});
        drawn(-2, 4, new int[][] {{0, 0}, {0, 1}, {-1, 2}, {-1, 3}});
        // p = 3; 0, -3 + 6 aside, 0, -3 + 6 aside, 0, -3 + 6 aside
        drawn(-6, 3, new int[][] {{0, 0}, {-1, 0}, {-2, 1}, {-3, 1}, {-4, 2}, {-5, 2}});
    }

    /** "(it stays for 0)", at the ends of the numbers too. */
    private static void staysFor0() {
        int[] ends = {-32768, 0, 32767};
        for (int end : ends) {
            BitCopier x = pen(10, end);
            x.line(2000, 0);
            at("line(2000, 0)", x, 2010, end);
            x.line(-2000, 0);
            at("line(-2000, 0)", x, 10, end);
            x.set(0, end, 10);
            x.line(0, 2000);
            at("line(0, 2000)", x, end, 2010);
            x.line(0, -2000);
            at("line(0, -2000)", x, end, 10);
        }
    }

    /** "and, but for the last time, it is copied" */
    private static void notCopiedTheLastTime() {
        for (int n = 1; n <= 20; n++) {
            BitCopier x = pen(20, 20);
            Check.due("line(" + n + ", 0)", x.line(n, 0), n);
            Check.due("its last bit", x.bit(0, 20 + n - 1, 20), 1);
            Check.due("where it ends", x.bit(0, 20 + n, 20), 0);
            x = pen(20, 20);
            Check.due("line(0, -" + n + ")", x.line(0, -n), n);
            Check.due("its last bit", x.bit(0, 20, 20 - n + 1), 1);
            Check.due("where it ends", x.bit(0, 20, 20 - n), 0);
        }
    }

    /** "where one would leave these, the line ends before that", x being the one that leads. */
    private static void endsAlongX() {
        for (int room = 0; room <= 6; room++) {
            for (int way = 0; way <= 8; way++) {
                BitCopier x = new BitCopier();
                x.form(0, 64000, 1);
                x.set(1, 1, 1);
                x.set(3, 32000, 0);
                x.set(4, 2000, 1);
                x.set(0, 32767 - room, 0);
                String name = room + " before the highest, line(" + way + ", 0)";
                int copies = way > room ? room + 1 : Math.max(1, way);
                Check.due(name, x.line(way, 0), copies);
                Check.due(name + ": ones", x.count(0), copies);
                at(name, x, 32767 - room + Math.min(way, room), 0);
                x.set(0, -32768 + room, 0);
                x.set(1, 32767, 1);
                x.line(-way, 0);
                at(room + " above the lowest, line(" + -way + ", 0)", x, -32768 + room - Math.min(way, room), 0);
            }
        }
    }

    private static void endsAlongY() {
        for (int room = 0; room <= 6; room++) {
            for (int way = 0; way <= 8; way++) {
                BitCopier x = pen(3, 32767 - room);
                String name = room + " before the highest, line(0, " + way + ")";
                Check.due(name, x.line(0, way), 0);
                at(name, x, 3, 32767 - room + Math.min(way, room));
                x.set(0, 3, -32768 + room);
                name = room + " above the lowest, line(0, " + -way + ")";
                Check.due(name, x.line(0, -way), 0);
                at(name, x, 3, -32768 + room - Math.min(way, room));
            }
        }
    }

    /** Here it is the step aside that would leave: the step along, made before it, stands. */
    private static void endsAside() {
        // p = 10; 7, 4, 1, -2 + 20 aside at the 4th time; 15, 12, .. 0, -3 + 20 at the 11th time
        int[] signs = {-1, 1};
        for (int sign : signs) {
            int edge = sign > 0 ? 32767 : -32768;
            BitCopier x = pen(100, edge);
            x.line(20, 3 * sign);
            at("aside at the end, x leads", x, 104, edge);
            x.set(0, 100, edge - sign);
            x.line(-20, 3 * sign);
            at("one before the end, x leads", x, 89, edge);
            x.set(0, 100, edge - 3 * sign);
            x.line(20, 3 * sign);
            at("three before the end, x leads", x, 120, edge);
            x.set(0, edge, 100);
            x.line(3 * sign, 20);
            at("aside at the end, y leads", x, edge, 104);
            x.set(0, edge - sign, 100);
            x.line(3 * sign, -20);
            at("one before the end, y leads", x, edge, 89);
            x.set(0, edge - 3 * sign, 100);
            x.line(3 * sign, 20);
            at("three before the end, y leads", x, edge, 120);
            x.set(0, edge, 100);
            x.line(-3 * sign, 20);
            at("away from the end", x, edge - 3 * sign, 120);
        }
    }

    /** Once a step aside would leave, nothing is copied any more. */
    private static void countsBeforeItEndsAside() {
        BitCopier x = new BitCopier();
        x.form(0, 64000, 1);
        x.set(1, 1, 20);
        x.set(3, 32767, 0);
        x.set(4, 1, 1);
        x.set(0, 32767, -12);
        Check.due("four copies", x.line(3, 20), 4);
        at("four copies", x, 32767, -8);
        x.set(0, 32767, -12);
        Check.due("away from the end at once: the clip has one column", x.line(-3, 20), 4);
        at("away from the end", x, 32764, 8);
    }

    private static void nothingToCopyMovesStill() {
        BitCopier x = pen(5, 5);
        x.set(1, 0, 3);
        Check.due("an empty size", x.line(7, -2), 0);
        at("an empty size", x, 12, 3);
        x.set(1, 3, 3);
        x.set(4, 5, -1);
        Check.due("an empty clip", x.line(-7, 2), 0);
        at("an empty clip", x, 5, 5);
        Check.due("nothing copied", x.count(0), 0);
    }

    /** The source "as it was before" a copy is the form as the copy before that left it. */
    private static void eachCopyTakesWhatTheLastLeft() {
        BitCopier x = pen(1, 0);
        x.put(0, 0, 0x8000);
        x.forms(0, 0, -1);
        x.set(1, 60, 1);
        Check.due("line(3, 0)", x.line(3, 0), 59 + 58 + 57);
        Check.due("1 bit, 2, 4, 7", x.word(0, 0), 0xFE00);
        // By single copies it must be the same.
        BitCopier y = pen(1, 0);
        y.put(0, 0, 0x8000);
        y.forms(0, 0, -1);
        y.set(1, 60, 1);
        for (int to = 1; to <= 3; to++) {
            y.set(0, to, 0);
            y.copy();
        }
        Check.due("by single copies", y.word(0, 0), 0xFE00);
    }

    private static void orderButForToStays() {
        BitCopier x = pen(5, 6);
        x.set(1, 2, 3);
        x.set(2, -4, 9);
        x.set(3, -1, -2);
        x.set(4, 50, 51);
        x.line(9, 4);
        at("to", x, 14, 10);
        int[][] due = {{2, 3}, {-4, 9}, {-1, -2}, {50, 51}};
        for (int what = 1; what < 5; what++) {
            Check.due("first of " + what, x.order(what, false), due[what - 1][0]);
            Check.due("second of " + what, x.order(what, true), due[what - 1][1]);
        }
    }
}
