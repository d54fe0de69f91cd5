/** The boundary cases of promises 19 to 27: run, stroke, baseline, foot, curl, mean, rest, slope, level. */
public final class LineEdgesTest {
    private static final int UNKNOWN = LevelledInk.UNKNOWN, OUTSIDE = LevelledInk.OUTSIDE;
    private static final int STATE = LevelledInk.STATE, NONE = LevelledInk.NONE;
    private static final long LOST = LevelledInk.LOST;
    private static final int STAYS = Twins.STAYS;
    private static final long ALL = 4294967295L, BOTTOM = 2147483648L;
    private static final String[] NO_COLUMNS = {"-1", "6", "23", "24", "LEAST", "GREATEST"};

    public static void main(String[] args) {
        runOfOneDot();
        runOfFullPage();
        runsAsManyAsMayBe();
        runsEndWithTheRow();
        runRefused();
        strokeOfOneDot();
        strokeOfFullPage();
        strokesAsManyAsMayBe();
        strokesThatJustTouch();
        strokesThatDoNotTouch();
        strokesAreLinked();
        strokesThatShrink();
        strokeRefused();
        feetOfRowThirtyOne();
        baselineOfOneDot();
        baselineOfFullPage();
        baselineOfOneColumn();
        baselineOfStepsOfOne();
        baselineOfStepsOfTwo();
        baselineOfSeveral();
        baselineRefused();
        footBesideTheLine();
        footRefused();
        levelIsRounded();
        curlLeastAndGreatest();
        curlBesideTheLine();
        curlRefused();
        meanLeastAndGreatest();
        restLeastAndGreatest();
        meanAndRestRefused();
        slopeOfTwoColumns();
        slopeLeastAndGreatest();
        slopeRefused();
        levelOfOneDot();
        levelOfFullPage();
        levelUpToTheEdge();
        levelBesideTheLine();
        levelRefused();
        asksChangeNothing();
        Due.end();
    }

    private static Asked drawn(String about, int top, String... rows) {
        return new Asked(about).drawn(top, rows);
    }

    /** Columns 0 .. 23 have one DOT each, in these rows. */
    private static Asked line(String about, int... rows) {
        Asked x = new Asked(about).after("page(" + rows.length + ")");
        for (int k = 0; k < rows.length; k++) {
            x.after("dot(" + k + ", " + rows[k] + ", 1)");
        }
        return x;
    }

    private static int[] straight(int n, int from, int step) {
        int[] rows = new int[n];
        for (int k = 0; k < n; k++) {
            rows[k] = from + k * step;
        }
        return rows;
    }

    /** n columns, of which the last 'lower' ones are one row lower. */
    private static int[] stepped(int n, int from, int lower) {
        int[] rows = new int[n];
        for (int k = 0; k < n; k++) {
            rows[k] = k < n - lower ? from : from + 1;
        }
        return rows;
    }

    private static void run(Asked x, int k, int... numbers) {
        for (int what = 0; what < numbers.length; what++) {
            x.due("run(" + k + ", " + what + ")", numbers[what]);
        }
    }

    private static void stroke(Asked x, int k, int... numbers) {
        for (int what = 0; what < numbers.length; what++) {
            x.due("stroke(" + k + ", " + what + ")", numbers[what]);
        }
    }

    private static void runOfOneDot() {
        for (int r : new int[] {0, 31}) {
            for (int k : new int[] {0, 23}) {
                Asked x = new Asked("19: one DOT in a corner").after("dot(" + k + ", " + r + ", 1)").due("many(2)", 1);
                run(x, 0, r, k, 1, 0);
                x.due("run(1, 0)", UNKNOWN).due("run(-1, 0)", UNKNOWN);
            }
        }
    }

    private static void runOfFullPage() {
        Asked x = new Asked("19: a full PAGE").full().due("many(2)", 32);
        for (int r = 0; r < 32; r++) {
            run(x, r, r, 0, 24, 0);
        }
        x.due("run(32, 0)", UNKNOWN);
    }

    private static void runsAsManyAsMayBe() {
        Asked x = new Asked("19: 384 RUNS").filled(0, 31, 1, 2).due("many(2)", 384);
        run(x, 0, 0, 0, 1, 0);
        run(x, 11, 0, 22, 1, 11);
        run(x, 12, 1, 0, 1, 0);
        run(x, 383, 31, 22, 1, 11);
        x.due("run(384, 0)", UNKNOWN).due("many(3)", 12);
    }

    private static void runsEndWithTheRow() {
        Asked x = drawn("19: the end of a row and the begin of the next", 4, "...##", "##...").due("many(2)", 2);
        run(x, 0, 4, 3, 2, 0);
        run(x, 1, 5, 0, 2, 1);
        x = drawn("19: a gap of one", 4, "##.##").due("many(2)", 2);
        run(x, 0, 4, 0, 2, 0);
        run(x, 1, 4, 3, 2, 1);
    }

    private static void runRefused() {
        new Twins("19: no such RUN", Pasts.BUSY).refusedFor("run(?, 0)", UNKNOWN, STAYS,
            "-1", "4", "5", "384", "LEAST", "GREATEST");
        new Twins("19: no DOTS").refusedFor("run(?, 0)", UNKNOWN, STAYS, "0", "-1", "1");
        new Twins("19: neither 0 nor 3", Pasts.BUSY).refusedFor("run(0, ?)", OUTSIDE, STAYS,
            "-1", "4", "LEAST", "GREATEST");
        new Twins("19: UNKNOWN ahead of OUTSIDE", Pasts.BUSY).refused("run(4, 4)", UNKNOWN, STAYS)
            .refused("run(-1, -1)", UNKNOWN, STAYS);
        new Twins("19: UNKNOWN ahead of OUTSIDE, no DOTS").refused("run(0, 4)", UNKNOWN, STAYS);
    }

    private static void strokeOfOneDot() {
        for (int r : new int[] {0, 31}) {
            for (int k : new int[] {0, 23}) {
                Asked x = new Asked("20: one DOT in a corner").after("dot(" + k + ", " + r + ", 1)").due("many(3)", 1);
                stroke(x, 0, 1, 1, r, r, k, k);
                x.due("stroke(1, 0)", UNKNOWN).due("stroke(-1, 0)", UNKNOWN);
            }
        }
    }

    private static void strokeOfFullPage() {
        Asked x = new Asked("20: a full PAGE").full().due("many(3)", 1);
        stroke(x, 0, 768, 32, 0, 31, 0, 23);
        x.due("stroke(1, 0)", UNKNOWN);
        x = new Asked("20: a full PAGE of one column").after("page(1)").full().due("many(3)", 1);
        stroke(x, 0, 32, 32, 0, 31, 0, 0);
    }

    private static void strokesAsManyAsMayBe() {
        Asked x = new Asked("20: 192 STROKES").filled(0, 31, 2, 2).due("many(3)", 192).due("many(2)", 192);
        stroke(x, 0, 1, 1, 0, 0, 0, 0);
        stroke(x, 191, 1, 1, 30, 30, 22, 22);
        run(x, 191, 30, 22, 1, 191);
        x.due("stroke(192, 0)", UNKNOWN).due("run(192, 0)", UNKNOWN);
    }

    private static void strokesThatJustTouch() {
        drawn("20: the same column", 4, ".#.", ".#.").due("many(3)", 1);
        drawn("20: neighbours, to the right", 4, ".#.", "..#").due("many(3)", 1);
        drawn("20: neighbours, to the left", 4, ".#.", "#..").due("many(3)", 1);
        drawn("20: neighbours, ends of longer ones", 4, "##...", "..###").due("many(3)", 1);
        drawn("20: neighbours, ends of longer ones", 4, "...##", "###..").due("many(3)", 1);
        drawn("20: one below two", 4, "#.#", ".#.").due("many(3)", 1);
        drawn("20: one above two", 4, ".#.", "#.#").due("many(3)", 1);
        drawn("20: one all above the other", 4, "#####", "..#..").due("many(3)", 1);
        drawn("20: rows 30 and 31", 30, "#", "#").due("many(3)", 1);
    }

    private static void strokesThatDoNotTouch() {
        drawn("20: two columns apart, to the right", 4, "#..", "..#").due("many(3)", 2);
        drawn("20: two columns apart, to the left", 4, "..#", "#..").due("many(3)", 2);
        drawn("20: a row apart", 4, "#", ".", "#").due("many(3)", 2);
        drawn("20: a gap in one row", 4, "#.#").due("many(3)", 2);
        Asked x = new Asked("20: row 31 and row 0").after("dot(0, 0, 1)", "dot(0, 31, 1)").due("many(3)", 2);
        stroke(x, 0, 1, 1, 0, 0, 0, 0);
        stroke(x, 1, 1, 1, 31, 31, 0, 0);
        new Asked("20: the last column and the first one").after("dot(23, 5, 1)", "dot(0, 6, 1)").due("many(3)", 2);
        new Asked("20: the first column and the last one").after("dot(0, 5, 1)", "dot(23, 6, 1)").due("many(3)", 2);
    }

    private static void strokesAreLinked() {
        Asked x = drawn("20: linked by the last row alone", 28, "#.#.#", "#.#.#", "#.#.#", "#####").due("many(3)", 1);
        stroke(x, 0, 14, 10, 28, 31, 0, 4);
        x = drawn("20: numbered by their first RUNS", 0, "..#..#", "#.#...", "#.#..#", "###..#").due("many(3)", 3);
        stroke(x, 0, 8, 6, 0, 3, 0, 2);
        stroke(x, 1, 1, 1, 0, 0, 5, 5);
        stroke(x, 2, 2, 2, 2, 3, 5, 5);
        x.due("run(2, 3)", 0).due("run(1, 3)", 1);
    }

    /** Nothing is left of RUNS that were there before, ahead of a call that asked for them. */
    private static void strokesThatShrink() {
        Asked x = drawn("20: a STROKE that loses RUNS", 4, "#...", ".#..", "..##").due("stroke(0, 1)", 3);
        x.after("dot(2, 6, 0)", "dot(3, 6, 0)");
        stroke(x, 0, 2, 2, 4, 5, 0, 1);
        x.after("dot(1, 5, 0)");
        stroke(x, 0, 1, 1, 4, 4, 0, 0);
        x.after("dot(0, 4, 0)").due("stroke(0, 0)", UNKNOWN).due("run(0, 0)", UNKNOWN).due("many(2)", 0)
            .due("many(3)", 0);
        x = new Asked("20: a new PAGE").full().due("stroke(0, 0)", 768).after("page(2)", "dot(1, 9, 1)");
        stroke(x, 0, 1, 1, 9, 9, 1, 1);
        run(x, 0, 9, 1, 1, 0);
        x.due("run(1, 0)", UNKNOWN).due("stroke(1, 0)", UNKNOWN);
    }

    private static void strokeRefused() {
        new Twins("20: no such STROKE", Pasts.BUSY).refusedFor("stroke(?, 0)", UNKNOWN, STAYS,
            "-1", "4", "5", "192", "LEAST", "GREATEST");
        new Twins("20: no DOTS").refusedFor("stroke(?, 0)", UNKNOWN, STAYS, "0", "-1", "1");
        new Twins("20: neither 0 nor 5", Pasts.BUSY).refusedFor("stroke(0, ?)", OUTSIDE, STAYS,
            "-1", "6", "LEAST", "GREATEST");
        new Twins("20: UNKNOWN ahead of OUTSIDE", Pasts.BUSY).refused("stroke(4, 6)", UNKNOWN, STAYS)
            .refused("stroke(-1, -1)", UNKNOWN, STAYS);
        new Twins("20: more RUNS than STROKES", Pasts.FULL).refused("stroke(1, 0)", UNKNOWN, STAYS);
    }

    private static void feetOfRowThirtyOne() {
        drawn("21: a FOOT in row 31", 30, "#.", "##").due("many(4)", 2).due("foot(0)", 31).due("foot(1)", 31);
        drawn("21: none right below", 29, "#", ".", "#").due("many(4)", 2).due("foot(0)", 31);
        drawn("21: row 0 is not below row 31", 0, "#").after("dot(0, 31, 1)").due("many(4)", 2).due("foot(0)", 31);
        drawn("21: a DOT above another one is none", 0, "##", ".#").due("many(4)", 2).due("foot(0)", 0)
            .due("foot(1)", 1);
    }

    private static void baselineOfOneDot() {
        for (int r : new int[] {0, 31}) {
            for (int k : new int[] {0, 23}) {
                new Asked("21: one DOT in a corner").after("dot(" + k + ", " + r + ", 1)").due("baseline(0)", k)
                    .due("baseline(1)", 1).due("baseline(2)", r).due("foot(" + k + ")", r).due("foot(12)", NONE);
            }
        }
    }

    private static void baselineOfFullPage() {
        Asked x = new Asked("21: a full PAGE").full().due("many(4)", 24).due("baseline(0)", 0);
        x.due("baseline(1)", 24).due("baseline(2)", 31);
        for (int k = 0; k < 24; k++) {
            x.due("foot(" + k + ")", 31).due("curl(" + k + ")", 100);
        }
        x.due("mean()", Double.doubleToRawLongBits(31)).due("rest()", 0).due("slope()", 0);
    }

    private static void baselineOfOneColumn() {
        new Asked("21: one column").after("page(1)").full().due("baseline(0)", 0).due("baseline(1)", 1)
            .due("baseline(2)", 31).due("foot(0)", 31).due("foot(1)", UNKNOWN).due("slope()", STATE);
        drawn("21: one column, two FEET", 3, "#", ".", "#").due("baseline(1)", 1).due("baseline(2)", 5);
    }

    private static void baselineOfStepsOfOne() {
        line("21: unlike by 1, down", straight(24, 0, 1)).due("baseline(0)", 0).due("baseline(1)", 24)
            .due("foot(0)", 0).due("foot(23)", 23);
        line("21: unlike by 1, up", straight(24, 31, -1)).due("baseline(0)", 0).due("baseline(1)", 24)
            .due("foot(0)", 31).due("foot(23)", 8);
        line("21: to row 31 and away", 30, 31, 30).due("baseline(1)", 3).due("foot(1)", 31);
        line("21: to row 0 and away", 1, 0, 1).due("baseline(1)", 3).due("foot(1)", 0);
    }

    private static void baselineOfStepsOfTwo() {
        line("21: unlike by 2, down", 4, 6).due("baseline(0)", 0).due("baseline(1)", 1).due("foot(1)", NONE);
        line("21: unlike by 2, up", 6, 4).due("baseline(0)", 0).due("baseline(1)", 1).due("foot(1)", NONE);
        line("21: row 31 and row 0 are no neighbours", 31, 0).due("baseline(1)", 1).due("foot(0)", 31);
        line("21: row 0 and row 31 are no neighbours", 0, 31).due("baseline(1)", 1).due("foot(0)", 0);
        drawn("21: a column without DOTS", 4, "##.###").due("baseline(0)", 3).due("baseline(1)", 3);
        drawn("21: a column whose DOT goes on", 4, "###", ".#.", ".#.").due("baseline(0)", 0).due("baseline(1)", 1);
    }

    private static void baselineOfSeveral() {
        drawn("21: the most columns, though later and higher", 4, "..###", "#....", "#....").due("baseline(0)", 2)
            .due("baseline(1)", 3);
        drawn("21: those in the least column, though higher", 4, "##...", ".....", "...##").due("baseline(0)", 0)
            .due("baseline(2)", 4);
        drawn("21: as long, a column later, lower", 4, "##.", "...", ".##").due("baseline(0)", 0).due("foot(1)", 4);
        drawn("21: the lowest in the first column", 4, "##", "..", "##").due("foot(0)", 6).due("foot(1)", 6);
        // Both have five columns; they differ in column 1 first.
        drawn("21: the first column in which they differ", 4, "..#..", ".#.#.", "#...#", ".#...", "..##.", "....#")
            .due("baseline(1)", 5).due("foot(0)", 6).due("foot(1)", 7).due("foot(2)", 8).due("foot(3)", 8)
            .due("foot(4)", 9);
        drawn("21: the lowest that goes on as far", 4, "..##", "##..", "..#.").due("baseline(1)", 4).due("foot(2)", 4)
            .due("foot(3)", 4);
        drawn("21: two levels all along", 4, "####", "....", "####").due("foot(0)", 6).due("foot(3)", 6);
    }

    private static void baselineRefused() {
        new Twins("21: neither 0 nor 2", Pasts.BUSY).refusedFor("baseline(?)", OUTSIDE, STAYS,
            "-1", "3", "LEAST", "GREATEST");
        new Twins("21: neither 0 nor 2, no DOTS").refusedFor("baseline(?)", OUTSIDE, STAYS, "-1", "3");
        new Twins("21: no DOTS").refusedFor("baseline(?)", NONE, STAYS, "0", "1", "2");
        new Asked("21: no DOTS any more").after("dot(3, 3, 1)").due("baseline(0)", 3).after("dot(3, 3, 0)")
            .due("baseline(0)", NONE).due("baseline(1)", NONE).due("baseline(2)", NONE);
    }

    private static void footBesideTheLine() {
        drawn("22: on the left and on the right", 9, "#.###.#").due("foot(0)", NONE).due("foot(1)", NONE)
            .due("foot(2)", 9).due("foot(4)", 9).due("foot(5)", NONE).due("foot(6)", NONE).due("foot(7)", UNKNOWN);
        line("22: the first and the last column", straight(24, 5, 1)).due("foot(0)", 5).due("foot(23)", 28);
    }

    private static void footRefused() {
        new Twins("22: no such column", Pasts.BUSY).refusedFor("foot(?)", UNKNOWN, STAYS, NO_COLUMNS);
        new Twins("22: no such column, no DOTS").refusedFor("foot(?)", UNKNOWN, STAYS, "-1", "24");
        new Twins("22: no DOTS").refusedFor("foot(?)", NONE, STAYS, "0", "23");
    }

    private static void levelIsRounded() {
        line("21: a half goes to the greater one", stepped(2, 10, 1)).due("baseline(2)", 11);
        line("21: below a half", stepped(3, 10, 1)).due("baseline(2)", 10);
        line("21: above a half", stepped(3, 10, 2)).due("baseline(2)", 11);
        line("21: 11 of 23", stepped(23, 10, 11)).due("baseline(2)", 10);
        line("21: 12 of 23", stepped(23, 10, 12)).due("baseline(2)", 11);
        line("21: 11 of 24", stepped(24, 10, 11)).due("baseline(2)", 10);
        line("21: 12 of 24", stepped(24, 10, 12)).due("baseline(2)", 11);
        line("21: 13 of 24", stepped(24, 10, 13)).due("baseline(2)", 11);
        line("21: a half above row 0", stepped(2, 0, 1)).due("baseline(2)", 1);
        line("21: a half above row 30", stepped(2, 30, 1)).due("baseline(2)", 31);
        line("21: row 0", stepped(24, 0, 0)).due("baseline(2)", 0);
        line("21: row 31", stepped(24, 31, 0)).due("baseline(2)", 31);
    }

    private static void curlLeastAndGreatest() {
        // Rows 0 .. 23 together by 24 are 11 and a half: LEVEL 12.
        Asked x = line("23: the steepest, down", straight(24, 0, 1)).due("baseline(2)", 12);
        x.due("curl(0)", 88).due("curl(11)", 99).due("curl(12)", 100).due("curl(13)", 101).due("curl(23)", 111);
        x = line("23: the steepest, up", straight(24, 31, -1)).due("baseline(2)", 20);
        x.due("curl(0)", 111).due("curl(11)", 100).due("curl(12)", 99).due("curl(23)", 88);
    }

    private static void curlBesideTheLine() {
        drawn("23: left of these, right of these", 5, "..#....", "...#...", "....#..", ".....#.").due("baseline(2)", 7)
            .due("curl(0)", 98).due("curl(1)", 98).due("curl(2)", 98).due("curl(3)", 99).due("curl(4)", 100)
            .due("curl(5)", 101).due("curl(6)", 101).due("curl(7)", UNKNOWN);
        new Asked("23: one FOOT").after("dot(12, 5, 1)").due("curl(0)", 100).due("curl(12)", 100).due("curl(23)", 100);
    }

    private static void curlRefused() {
        new Twins("23: no such column", Pasts.BUSY).refusedFor("curl(?)", UNKNOWN, STAYS, NO_COLUMNS);
        new Twins("23: no DOTS").refusedFor("curl(?)", STATE, STAYS, "0", "23");
        new Twins("23: UNKNOWN ahead of STATE").refusedFor("curl(?)", UNKNOWN, STAYS, "-1", "24", "LEAST", "GREATEST");
        new Twins("23: UNKNOWN ahead of STATE, one column", "page(1)", "shear(0, 1)").refused("curl(1)", UNKNOWN, STAYS)
            .refused("curl(0)", STATE, STAYS);
    }

    private static long bits(double number) {
        return Double.doubleToRawLongBits(number);
    }

    private static void meanLeastAndGreatest() {
        line("24: row 0", stepped(24, 0, 0)).due("mean()", 0);
        line("24: the least above 0", stepped(24, 0, 1)).due("mean()", bits(1.0 / 24));
        line("24: the greatest below 1", stepped(24, 0, 23)).due("mean()", bits(23.0 / 24));
        line("24: 1", stepped(24, 0, 24)).due("mean()", bits(1));
        line("24: the greatest below 31", stepped(24, 30, 23)).due("mean()", bits(743.0 / 24));
        line("24: the least above 30", stepped(24, 30, 1)).due("mean()", bits(721.0 / 24));
        line("24: row 31", stepped(24, 31, 0)).due("mean()", bits(31));
        line("24: a half", stepped(2, 15, 1)).due("mean()", bits(15.5));
        // Just below and above a power of 2, where the digits have another weight.
        line("24: below 16", stepped(24, 15, 23)).due("mean()", bits(383.0 / 24));
        line("24: above 16", stepped(24, 16, 1)).due("mean()", bits(385.0 / 24));
    }

    private static void restLeastAndGreatest() {
        line("25: row 0", stepped(24, 0, 0)).due("rest()", 0);
        line("25: row 31", stepped(24, 31, 0)).due("rest()", 0);
        line("25: 1", stepped(1, 1, 0)).due("rest()", 0);
        line("25: the least, all of it", stepped(24, 0, 1)).due("rest()", bits(1.0 / 24));
        line("25: the least, of a great one", stepped(24, 30, 1)).due("rest()", bits(721.0 / 24 - 30));
        line("25: the greatest", stepped(24, 30, 23)).due("rest()", bits(743.0 / 24 - 30));
        line("25: the greatest, all of it", stepped(24, 0, 23)).due("rest()", bits(23.0 / 24));
        line("25: a half", stepped(2, 30, 1)).due("rest()", bits(0.5));
        // What is left of the DOUBLE is not the DOUBLE of what is left.
        Due.holds("25: of that DOUBLE", 721.0 / 24 - 30 != 1.0 / 24 && 743.0 / 24 - 30 != 23.0 / 24);
    }

    private static void meanAndRestRefused() {
        new Twins("24: no DOTS").refused("mean()", LOST, STAYS);
        new Twins("25: no DOTS").refused("rest()", LOST, STAYS);
        new Twins("24, 25: no DOTS, MOVES", "page(3)", "shear(0, 1)", "shear(1, 1)").refused("mean()", LOST, STAYS)
            .refused("rest()", LOST, STAYS);
    }

    private static void slopeOfTwoColumns() {
        line("26: two columns, down", 4, 5).due("slope()", Float.floatToRawIntBits(1));
        line("26: two columns, up", 5, 4).due("slope()", Float.floatToRawIntBits(-1));
        line("26: two columns, level", 5, 5).due("slope()", 0);
        drawn("26: the last two columns", 4, "....................##", "......................").due("slope()", 0);
        new Asked("26: columns 22, 23").after("dot(22, 31, 1)", "dot(23, 30, 1)")
            .due("slope()", Float.floatToRawIntBits(-1));
    }

    /** The slope of a line of n columns in rows of its own, by the machine's own numbers. */
    private static int slopeOf(int... rows) {
        double k = 0, r = 0, kk = 0, kr = 0;
        for (int i = 0; i < rows.length; i++) {
            k += i;
            r += rows[i];
            kk += i * i;
            kr += i * rows[i];
        }
        // All sums are whole; the quotient of two floats that hold them as they are is rounded just once.
        return Float.floatToRawIntBits((float) (rows.length * kr - k * r) / (float) (rows.length * kk - k * k));
    }

    private static void slopeLeastAndGreatest() {
        line("26: as steep as may be, down", straight(24, 0, 1)).due("slope()", Float.floatToRawIntBits(1));
        line("26: as steep as may be, up", straight(24, 31, -1)).due("slope()", Float.floatToRawIntBits(-1));
        line("26: level, row 31", stepped(24, 31, 0)).due("slope()", 0);
        int[] flat = stepped(24, 30, 0);
        flat[12] = 31;
        line("26: the least above 0", flat).due("slope()", slopeOf(flat));
        Due.holds("26: the least above 0", Float.intBitsToFloat(slopeOf(flat)) > 0);
        flat = stepped(24, 30, 0);
        flat[11] = 31;
        line("26: the greatest below 0", flat).due("slope()", slopeOf(flat));
        Due.holds("26: the greatest below 0", Float.intBitsToFloat(slopeOf(flat)) < 0);
        flat[12] = 31;
        line("26: a hollow is level", flat).due("slope()", 0);
    }

    private static void slopeRefused() {
        new Twins("26: no DOTS").refused("slope()", STATE, STAYS);
        new Twins("26: one column of BASELINE", Pasts.BUSY).refused("slope()", STATE, STAYS);
        new Twins("26: one column of the PAGE", "page(1)", "dot(0, 5, 1)", "shear(0, 1)").refused("slope()", STATE, STAYS);
        new Twins("26: unlike by 2", "page(2)", "dot(0, 5, 1)", "dot(1, 7, 1)").refused("slope()", STATE, STAYS);
    }

    private static void levelOfOneDot() {
        new Asked("27: one DOT, a MOVE").after("dot(23, 31, 1)").due("level()", 0).due("many(5)", 1)
            .due("column(23)", BOTTOM);
        new Asked("27: level already, a MOVE").drawn(0, "###").due("level()", 0).due("many(5)", 1).columns(1, 1, 1);
    }

    private static void levelOfFullPage() {
        new Asked("27: a full PAGE, a MOVE").full().due("level()", 0).due("many(5)", 1).due("many(1)", 768)
            .due("column(0)", ALL).due("column(23)", ALL);
    }

    private static void levelUpToTheEdge() {
        // LEVEL 8 of rows 9 8 7 6: column 0 goes up by 1, column 3 down by 2.
        drawn("27: up to the top", 6, "...#", "..#.", ".#..", "#...").after("dot(0, 1, 1)").due("level()", 4)
            .columns(256 + 1, 256, 256, 256);
        drawn("27: down to the bottom", 6, "...#", "..#.", ".#..", "#...").after("dot(3, 29, 1)").due("level()", 4)
            .columns(256, 256, 256, 256 + BOTTOM);
        line("27: from row 0 on", straight(24, 0, 1)).due("level()", 23).due("column(0)", 1 << 12)
            .due("column(12)", 1 << 12).due("column(23)", 1 << 12);
        line("27: from row 31 on", straight(24, 31, -1)).due("level()", 23).due("column(0)", 1 << 20)
            .due("column(23)", 1 << 20);
    }

    private static void levelBesideTheLine() {
        // LEVEL 7 of rows 5 6 7 8 in columns 2 .. 5: those on the left go down by 2, those on the right up by 1.
        drawn("27: left and right of it", 1, "......#", ".......", ".......", ".......", "..#....", "...#...",
            "....#..", ".....#.").after("dot(0, 29, 1)").due("level()", 5)
            .columns(BOTTOM, 0, 128, 128, 128, 128, 1);
        String[] line = {"page(7)", "dot(2, 5, 1)", "dot(3, 6, 1)", "dot(4, 7, 1)", "dot(5, 8, 1)"};
        new Twins("27: below, left of it", with(line, "dot(0, 30, 1)")).refused("level()", STATE, STAYS);
        new Twins("27: above, right of it", with(line, "dot(6, 0, 1)")).refused("level()", STATE, STAYS);
    }

    private static String[] with(String[] calls, String more) {
        String[] all = java.util.Arrays.copyOf(calls, calls.length + 1);
        all[calls.length] = more;
        return all;
    }

    private static void levelRefused() {
        new Twins("27: no DOTS").refused("level()", STATE, STAYS);
        new Twins("27: no DOTS, MOVES", "page(3)", "shear(0, 1)", "shear(1, 1)").refused("level()", STATE, STAYS);
        new Twins("27: above", Pasts.BENT_AT_TOP).refused("level()", STATE, STAYS);
        new Twins("27: below", Pasts.BENT_AT_BOTTOM).refused("level()", STATE, STAYS);
    }

    /** What is only asked leaves the PAGE, CARDS, MOVES and fault() as they are. */
    private static void asksChangeNothing() {
        new Twins("19 to 26: an answer changes nothing", Pasts.BENT_AT_TOP).refused("run(0, 3)", 0, STAYS)
            .refused("stroke(0, 0)", 1, STAYS).refused("baseline(2)", 7, STAYS).refused("foot(3)", 5, STAYS)
            .refused("curl(0)", 101, STAYS).refused("mean()", bits(6.5), STAYS).refused("rest()", bits(0.5), STAYS)
            .refused("slope()", Float.floatToRawIntBits(-1), STAYS);
    }
}
