/** Promises 19 to 27: runs, strokes, the baseline, how it bends and leans, the move that levels it. */
public final class LinesTest {
    private static final int UNKNOWN = LevelledInk.UNKNOWN, OUTSIDE = LevelledInk.OUTSIDE;
    private static final int STATE = LevelledInk.STATE, NONE = LevelledInk.NONE;
    private static final long LOST = LevelledInk.LOST;
    private static final int LEAST = Integer.MIN_VALUE, GREATEST = Integer.MAX_VALUE;

    public static void main(String[] args) {
        runs();
        mostRuns();
        runRefusals();
        strokesThatTouch();
        strokesThatAreLinked();
        strokeOfOneRun();
        strokeRefusals();
        feet();
        baseline();
        baselineOfSeveral();
        baselineForks();
        baselineThatBreaks();
        baselineRefusals();
        foot();
        curl();
        curlIsRounded();
        mean();
        rest();
        slope();
        slopeOfEachChain();
        level();
        levelLeaves();
        Due.end();
    }

    /** A page drawn with '#' for a dot; its first text is row 'top'. */
    private static LevelledInk drawn(int top, String... rows) {
        LevelledInk x = new LevelledInk();
        x.page(rows[0].length());
        for (int r = 0; r < rows.length; r++) {
            for (int k = 0; k < rows[r].length(); k++) {
                if (rows[r].charAt(k) == '#') {
                    x.dot(k, top + r, 1);
                }
            }
        }
        return x;
    }

    private static void runIs(LevelledInk x, int k, int row, int first, int dots, int stroke) {
        Due.due("19: row of run " + k, x.run(k, 0), row);
        Due.due("19: first column of run " + k, x.run(k, 1), first);
        Due.due("19: dots of run " + k, x.run(k, 2), dots);
        Due.due("19: stroke of run " + k, x.run(k, 3), stroke);
    }

    private static void runs() {
        LevelledInk x = drawn(29,
            "##.###",
            "......",
            "#.#..#");
        Due.due("30: runs", x.many(2), 5);
        runIs(x, 0, 29, 0, 2, 0);
        runIs(x, 1, 29, 3, 3, 1);
        runIs(x, 2, 31, 0, 1, 2);
        runIs(x, 3, 31, 2, 1, 3);
        runIs(x, 4, 31, 5, 1, 4);
        LevelledInk whole = drawn(0, "########################", "########################");
        Due.due("30: a whole row is one run", whole.many(2), 2);
        runIs(whole, 1, 1, 0, 24, 0);
        whole.dot(5, 0, 0);
        Due.due("30: a gap parts it", whole.many(2), 3);
        runIs(whole, 1, 0, 6, 18, 0);
    }

    private static void mostRuns() {
        LevelledInk x = new LevelledInk();
        x.blank(0, 3, 24);
        for (int k = 0; k < 24; k += 2) {
            x.put(0, k, 1);
        }
        for (int r = 0; r < 32; r++) {
            x.row(r, 0);
        }
        Due.due("30: most runs", x.many(2), 384);
        Due.due("30: bars", x.many(3), 12);
        runIs(x, 383, 31, 22, 1, 11);
        Due.due("20: a bar's dots", x.stroke(11, 0), 32);
        x.blank(1, 3, 24);
        for (int k = 1; k < 24; k += 2) {
            x.put(1, k, 1);
        }
        for (int r = 1; r < 32; r += 2) {
            x.row(r, 1);
        }
        Due.due("30: a chessboard has as many", x.many(2), 384);
        Due.due("30: corners touch", x.many(3), 1);
        Due.due("20: all dots", x.stroke(0, 0), 384);
    }

    private static void runRefusals() {
        LevelledInk none = new LevelledInk();
        Due.due("19: no runs", none.run(0, 0), UNKNOWN);
        LevelledInk x = drawn(3, "#.#");
        for (int k : new int[] {-1, 2, 384, LEAST, GREATEST}) {
            Due.due("19: run(" + k + ", 0)", x.run(k, 0), UNKNOWN);
            Due.due("19: UNKNOWN comes first", x.run(k, 4), UNKNOWN);
        }
        for (int what : new int[] {-1, 4, LEAST, GREATEST}) {
            Due.due("19: run(0, " + what + ")", x.run(0, what), OUTSIDE);
        }
    }

    private static void strokeIs(LevelledInk x, int k, int... numbers) {
        for (int what = 0; what < numbers.length; what++) {
            Due.due("20: stroke(" + k + ", " + what + ")", x.stroke(k, what), numbers[what]);
        }
    }

    private static void strokesThatTouch() {
        LevelledInk x = drawn(10,
            "#....##",
            ".#.....",
            "...#..#",
            "##.....");
        // runs: row 10: 0, 5-6; row 11: 1; row 12: 3, 6; row 13: 0-1
        Due.due("30: strokes", x.many(3), 5);
        strokeIs(x, 0, 2, 2, 10, 11, 0, 1);
        strokeIs(x, 1, 2, 1, 10, 10, 5, 6);
        strokeIs(x, 2, 1, 1, 12, 12, 3, 3);
        strokeIs(x, 3, 1, 1, 12, 12, 6, 6);
        strokeIs(x, 4, 2, 1, 13, 13, 0, 1);
        x.dot(2, 11, 1);
        Due.due("30: neighbours touch", x.many(3), 4);
        strokeIs(x, 0, 4, 3, 10, 12, 0, 3);
        Due.due("19: numbers move up", x.run(5, 3), 3);
    }

    private static void strokesThatAreLinked() {
        LevelledInk x = drawn(0,
            "#.#.#.#",
            "......#",
            "#.#.###",
            "#.#.#..",
            "#####..",
            ".......",
            "#......");
        // The bar in row 4 links what begins in row 2; what begins in row 0 at columns 0, 2, 4 stays.
        Due.due("30: strokes", x.many(3), 5);
        strokeIs(x, 0, 1, 1, 0, 0, 0, 0);
        strokeIs(x, 3, 15, 9, 0, 4, 0, 6);
        strokeIs(x, 4, 1, 1, 6, 6, 0, 0);
        Due.due("19: the first of them", x.run(5, 3), 3);
        Due.due("19: the last of them", x.run(11, 3), 3);
        LevelledInk late = drawn(0,
            "#...#",
            "#.#.#",
            ".....",
            "#...#",
            "#####");
        Due.due("30: linked in the last row alone", late.many(3), 4);
        strokeIs(late, 3, 7, 3, 3, 4, 0, 4);
    }

    private static void strokeOfOneRun() {
        LevelledInk x = drawn(9, "...##..");
        strokeIs(x, 0, 2, 1, 9, 9, 3, 4);
        x.dot(3, 9, 0);
        strokeIs(x, 0, 1, 1, 9, 9, 4, 4);
        x.dot(5, 10, 1);
        strokeIs(x, 0, 2, 2, 9, 10, 4, 5);
        x.dot(5, 10, 0);
        strokeIs(x, 0, 1, 1, 9, 9, 4, 4);
        x.dot(4, 9, 0);
        Due.due("20: gone", x.stroke(0, 0), UNKNOWN);
    }

    private static void strokeRefusals() {
        LevelledInk none = new LevelledInk();
        Due.due("20: no strokes", none.stroke(0, 0), UNKNOWN);
        LevelledInk x = drawn(3, "#.#");
        for (int k : new int[] {-1, 2, 384, LEAST, GREATEST}) {
            Due.due("20: stroke(" + k + ", 0)", x.stroke(k, 0), UNKNOWN);
            Due.due("20: UNKNOWN comes first", x.stroke(k, 6), UNKNOWN);
        }
        for (int what : new int[] {-1, 6, LEAST, GREATEST}) {
            Due.due("20: stroke(0, " + what + ")", x.stroke(0, what), OUTSIDE);
        }
    }

    private static void feet() {
        LevelledInk x = drawn(28, "#.#", "#.#", "..#", ".##");
        // column 0: row 29; column 1: row 31; column 2: row 31
        Due.due("30: feet", x.many(4), 3);
        x.dot(2, 29, 0);
        Due.due("30: one more", x.many(4), 4);
    }

    private static void lineIs(String what, LevelledInk x, int first, int height, int... rows) {
        Due.due("21: " + what + ", first column", x.baseline(0), first);
        Due.due("21: " + what + ", columns", x.baseline(1), rows.length);
        Due.due("21: " + what + ", level", x.baseline(2), height);
        for (int k = 0; k < x.many(0); k++) {
            int due = k < first || k >= first + rows.length ? NONE : rows[k - first];
            Due.due("22: " + what + ", column " + k, x.foot(k), due);
        }
    }

    private static void baseline() {
        lineIs("one dot", drawn(31, "..#."), 2, 31, 31);
        lineIs("a dot on top", drawn(0, "#"), 0, 0, 0);
        lineIs("steps of one", drawn(4, "#....", ".#.#.", "..#.#"), 0, 5, 4, 5, 6, 5, 6);
        lineIs("a step of two ends it", drawn(4, "##...", ".....", "..###"), 2, 6, 6, 6, 6);
        lineIs("a gap ends it", drawn(4, "##.###"), 3, 4, 4, 4, 4);
        lineIs("dots above do not count", drawn(4, "###", "#.#", "#.#"), 0, 6, 6);
        lineIs("on two levels", drawn(0, "#####", ".....", "##.##"), 0, 0, 0, 0, 0, 0, 0);
    }

    private static void baselineOfSeveral() {
        lineIs("the least column", drawn(4, "##....", "......", "......", "....##"), 0, 4, 4, 4);
        lineIs("the least column, though higher", drawn(4, "##.", "...", "...", ".##"), 0, 4, 4, 4);
        lineIs("the lowest at once", drawn(4, "##", "..", "..", "##"), 0, 7, 7, 7);
        lineIs("the longest before the lowest", drawn(4, "###", "...", "##."), 0, 4, 4, 4, 4);
    }

    private static void baselineForks() {
        lineIs("the lowest where they part", drawn(4,
            "..##",
            "##..",
            "..##"), 0, 6, 5, 5, 6, 6);
        lineIs("the lowest that is as long", drawn(4,
            "..##",
            "##..",
            "..#."), 0, 5, 5, 5, 4, 4);
        lineIs("low first, high later", drawn(4,
            ".###",
            "#...",
            ".#..",
            "..#.",
            "...#"), 0, 7, 5, 6, 7, 8);
        lineIs("the first difference tells", drawn(4,
            ".#...",
            "#.#..",
            ".#.##",
            "..#..",
            ".....",
            "....."), 0, 6, 5, 6, 7, 6, 6);
    }

    private static void baselineThatBreaks() {
        LevelledInk x = drawn(4, "######");
        lineIs("whole", x, 0, 4, 4, 4, 4, 4, 4, 4);
        x.dot(1, 4, 0);
        lineIs("broken", x, 2, 4, 4, 4, 4, 4);
        x.dot(4, 4, 0);
        lineIs("broken twice", x, 2, 4, 4, 4);
        x.page(3);
        Due.due("21: a new page", x.baseline(1), NONE);
    }

    private static void baselineRefusals() {
        LevelledInk x = new LevelledInk();
        for (int what = 0; what < 3; what++) {
            Due.due("21: no dots", x.baseline(what), NONE);
        }
        for (int what : new int[] {-1, 3, LEAST, GREATEST}) {
            Due.due("21: baseline(" + what + "), no dots", x.baseline(what), OUTSIDE);
        }
        x.dot(1, 1, 1);
        for (int what : new int[] {-1, 3, LEAST, GREATEST}) {
            Due.due("21: baseline(" + what + ")", x.baseline(what), OUTSIDE);
        }
    }

    private static void foot() {
        LevelledInk x = new LevelledInk();
        x.page(5);
        for (int k = 0; k < 5; k++) {
            Due.due("22: no dots", x.foot(k), NONE);
        }
        for (int k : new int[] {-1, 5, 24, LEAST, GREATEST}) {
            Due.due("22: foot(" + k + ")", x.foot(k), UNKNOWN);
        }
        x.dot(4, 3, 1);
        Due.due("22: another width", x.foot(4), 3);
        x.page(4);
        Due.due("22: a new page", x.foot(3), NONE);
    }

    private static void curl() {
        LevelledInk x = drawn(10, ".......", "..#....", "...##..", ".......", "......#");
        int[] due = {-1, -1, -1, 0, 0, 0, 0};
        for (int k = 0; k < 7; k++) {
            Due.due("23: curl(" + k + ")", x.curl(k), due[k] + 100);
        }
        for (int k : new int[] {-1, 7, 24, LEAST, GREATEST}) {
            Due.due("23: curl(" + k + ")", x.curl(k), UNKNOWN);
        }
        LevelledInk none = new LevelledInk();
        none.page(3);
        Due.due("23: no dots", none.curl(2), STATE);
        Due.due("23: UNKNOWN comes first", none.curl(3), UNKNOWN);
    }

    private static void curlIsRounded() {
        lineIs("a half goes to the greater one", drawn(10, "#.", ".#"), 0, 11, 10, 11);
        LevelledInk x = drawn(10, "#.", ".#");
        Due.due("23: curl(0)", x.curl(0), 99);
        Due.due("23: curl(1)", x.curl(1), 100);
        lineIs("a third", drawn(10, "##.", "..#"), 0, 10, 10, 10, 11);
        lineIs("two thirds", drawn(10, "#..", ".##"), 0, 11, 10, 11, 11);
    }

    private static void mean() {
        Due.due("24: no dots", new LevelledInk().mean(), LOST);
        Due.due("24: row 0", drawn(0, "##").mean(), Double.doubleToRawLongBits(0.0));
        Due.due("24: a half", drawn(0, "#.", ".#").mean(), Double.doubleToRawLongBits(0.5));
        Due.due("24: a third", drawn(0, "##.", "..#").mean(), Double.doubleToRawLongBits(1.0 / 3));
        Due.due("24: two thirds", drawn(0, "#..", ".##").mean(), Double.doubleToRawLongBits(2.0 / 3));
        Due.due("24: 31", drawn(31, "###").mean(), Double.doubleToRawLongBits(31.0));
    }

    private static void rest() {
        Due.due("25: no dots", new LevelledInk().rest(), LOST);
        Due.due("25: a whole number", drawn(31, "###").rest(), 0);
        Due.due("25: row 0", drawn(0, "##").rest(), 0);
        Due.due("25: a third", drawn(0, "##.", "..#").rest(), Double.doubleToRawLongBits(1.0 / 3));
        double low = 91.0 / 3;
        Due.due("25: a third of a great one", drawn(30, "##.", "..#").rest(), Double.doubleToRawLongBits(low - 30));
        Due.holds("25: not the nearest to a third", low - 30 != 1.0 / 3);
        Due.due("25: of one and a half", drawn(1, "#.", ".#").rest(), Double.doubleToRawLongBits(0.5));
        Due.due("25: of one", drawn(1, "##").rest(), 0);
        Due.due("25: a half", drawn(20, "#.", ".#").rest(), Double.doubleToRawLongBits(0.5));
    }

    private static void slope() {
        Due.due("26: no dots", new LevelledInk().slope(), STATE);
        Due.due("26: one column", drawn(7, "#.#").slope(), STATE);
        Due.due("26: two columns, level", drawn(7, "##").slope(), 0);
        Due.due("26: it falls", drawn(7, "#.", ".#").slope(), Float.floatToRawIntBits(1f));
        Due.due("26: it rises", drawn(7, ".#", "#.").slope(), Float.floatToRawIntBits(-1f));
        Due.due("26: a bow", drawn(7, "#.#", ".#.").slope(), 0);
        Due.due("26: seven tenths", drawn(7, "##..", "..#.", "...#").slope(), Float.floatToRawIntBits(0.7f));
        Due.due("26: seven tenths, rising", drawn(7, "...#", "..#.", "##..").slope(), Float.floatToRawIntBits(-0.7f));
        Due.due("26: not from column 0", drawn(7, "...##..", ".....##").slope(), Float.floatToRawIntBits(0.4f));
    }

    /** Lines with one step at each place: many ratios, each against the machine's own division. */
    private static void slopeOfEachChain() {
        LevelledInk x = new LevelledInk();
        for (int n = 2; n <= 24; n++) {
            for (int step = 0; step <= n; step++) {
                for (int turn = -1; turn <= 1; turn += 2) {
                    x = new LevelledInk();
                    int sumK = 0, sumR = 0, sumKK = 0, sumKR = 0;
                    for (int i = 0; i < n; i++) {
                        int k = 24 - n + i;
                        int r = i < step ? 10 : 10 + turn;
                        x.dot(k, r, 1);
                        sumK += k;
                        sumR += r;
                        sumKK += k * k;
                        sumKR += k * r;
                    }
                    float due = (float) (n * sumKR - sumK * sumR) / (float) (n * sumKK - sumK * sumK);
                    String line = n + " feet, a step " + turn + " at " + step;
                    Due.due("26: " + line, x.slope(), due == 0 ? 0 : Float.floatToRawIntBits(due));
                    double mean = (double) sumR / n;
                    Due.due("24: " + line, x.mean(), Double.doubleToRawLongBits(mean));
                    Due.due("25: " + line, x.rest(), Double.doubleToRawLongBits(mean - Math.floor(mean)));
                }
            }
        }
    }

    private static void level() {
        Due.due("27: no dots", new LevelledInk().level(), STATE);
        LevelledInk x = drawn(10,
            "#.......",
            ".#......",
            "..###...",
            ".....#..",
            "........",
            ".......#");
        x.dot(2, 2, 1);
        x.dot(0, 1, 1);
        // feet 10 11 12 12 12 13: level 12, curls -2 -1 0 0 0 1 1 1
        Due.due("27: how many", x.level(), 5);
        long[] due = {(1 << 12) + (1 << 3), 1 << 12, (1 << 12) + (1 << 2), 1 << 12, 1 << 12, 1 << 12, 0, 1 << 14};
        for (int k = 0; k < due.length; k++) {
            Due.due("27: column " + k, x.column(k), due[k]);
        }
        Due.due("27: a move", x.many(5), 1);
        Due.due("27: level now", x.level(), 0);
        Due.due("27: a move all the same", x.many(5), 2);
        Due.due("27: ink", x.many(1), 9);
        Due.due("27: level again", x.baseline(2), 12);
    }

    private static void levelLeaves() {
        LevelledInk above = drawn(0, "..#.", "....", "....", "....", "#...", ".#..", "..#.", "...#");
        // feet 4 5 6 7: level 6 (5.5), curls -2 -1 0 1
        Due.due("27: the dot on top stays in", above.level(), 3);
        above = drawn(0, "...#", "....", "....", "....", "#...", ".#..", "..#.", "...#");
        Due.due("27: above", above.level(), STATE);
        Due.due("27: nothing changes", above.column(0), 1 << 4);
        Due.due("27: no move", above.many(5), 0);
        LevelledInk below = drawn(20, "#......", ".#.....", "..#....", "...#...", "....#..", ".....#.", "......#");
        Due.due("27: the line alone", below.level(), 6);
        below.back();
        below.dot(0, 30, 1);
        Due.due("27: below", below.level(), STATE);
        Due.due("27: no dot is lost", below.many(1), 8);
        below.dot(0, 30, 0);
        below.dot(0, 28, 1);
        Due.due("27: down to the bottom", below.level(), 7);
        Due.due("27: at the bottom", below.column(0), (1L << 31) + (1 << 23));
    }
}
