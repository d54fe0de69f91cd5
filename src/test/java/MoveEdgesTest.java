/** The boundary cases of promises 28 to 30: back, fault, many; and the last call of an object. */
public final class MoveEdgesTest {
    private static final int UNKNOWN = LevelledInk.UNKNOWN, OUTSIDE = LevelledInk.OUTSIDE;
    private static final int STATE = LevelledInk.STATE;
    private static final long LOST = LevelledInk.LOST;
    private static final int NULL = -11, STORE = -12, INDEX = -13, SIZE = -14;
    private static final int STAYS = Twins.STAYS;
    private static final long ALL = 4294967295L, BOTTOM = 2147483648L;

    public static void main(String[] args) {
        backOfOneMove();
        backOfEightMoves();
        backOfNineMoves();
        backOfManyMoves();
        backOfMovesThatMoveNone();
        backOfEachKindOfMove();
        backAndOn();
        backOfForgottenMoves();
        backOfFullPage();
        backLeavesOtherThings();
        backRefused();
        faultAheadOfAny();
        faultOfEachCall();
        faultOfDoneCalls();
        faultOfRefusedCalls();
        faultStays();
        manyOfNothing();
        manyColumns();
        manyDots();
        manyRuns();
        manyStrokes();
        manyFeet();
        manyMoves();
        manyCards();
        manyRefused();
        lastCallOfAnObject();
        Due.end();
    }

    private static void backOfOneMove() {
        new Asked("28: one MOVE").after("page(2)", "dot(1, 1, 1)", "shear(0, 8)").columns(0, 1).due("back()", 0)
            .columns(0, 2).due("back()", STATE).columns(0, 2).due("many(5)", 0);
    }

    /** Column 1 with a DOT in row 31 that goes up by 1 at each of n MOVES. */
    private static Asked climbing(String about, int n) {
        Asked x = new Asked(about).after("page(2)", "dot(1, 31, 1)");
        for (int move = 1; move <= n; move++) {
            x.due("shear(0, 8)", 1).due("many(5)", Math.min(move, 8)).columns(0, 1L << (31 - move));
        }
        return x;
    }

    private static void backOfEightMoves() {
        Asked x = climbing("28: 8 MOVES", 8);
        for (int still = 7; still >= 0; still--) {
            x.due("back()", still).due("many(5)", still).columns(0, 1L << (31 - still));
        }
        x.due("back()", STATE).columns(0, BOTTOM);
    }

    private static void backOfNineMoves() {
        Asked x = climbing("28: 9 MOVES", 9);
        for (int still = 7; still >= 0; still--) {
            x.due("back()", still).columns(0, 1L << (30 - still));
        }
        x.due("back()", STATE).due("many(5)", 0).columns(0, 1L << 30);
    }

    private static void backOfManyMoves() {
        Asked x = climbing("28: 31 MOVES", 31).due("shear(0, 8)", STATE).due("many(5)", 8).columns(0, 1);
        for (int still = 7; still >= 0; still--) {
            x.due("back()", still).columns(0, 1L << (8 - still));
        }
        x.due("back()", STATE).columns(0, 256);
    }

    private static void backOfMovesThatMoveNone() {
        Asked x = new Asked("28: MOVES by which no DOT moved").after("page(2)", "dot(1, 9, 1)", "shear(0, 8)");
        x.due("shear(0, 0)", 0).due("shear(1, 0)", 0).due("level()", 0).due("many(5)", 4).due("back()", 3);
        x.due("back()", 2).due("back()", 1).columns(0, 256).due("back()", 0).columns(0, 512).due("back()", STATE);
        x = new Asked("28: 8 MOVES by which no DOT moved drop one by which one did").after("page(2)", "dot(1, 9, 1)");
        x.after("shear(0, 8)");
        for (int move = 0; move < 8; move++) {
            x.due("shear(0, 0)", 0).due("many(5)", Math.min(move + 2, 8));
        }
        for (int still = 7; still >= 0; still--) {
            x.due("back()", still).columns(0, 256);
        }
        x.due("back()", STATE).columns(0, 256);
    }

    private static void backOfEachKindOfMove() {
        new Asked("28: SKEW, down").after("page(2)", "dot(1, 30, 1)").due("shear(0, -9)", 1).columns(0, BOTTOM)
            .due("back()", 0).columns(0, 1 << 30);
        new Asked("28: SLANT, to the left").after("page(2)", "dot(1, 30, 1)").due("shear(1, 8)", 1).columns(1 << 30, 0)
            .due("back()", 0).columns(0, 1 << 30);
        new Asked("28: SLANT, to the right").after("page(2)", "dot(0, 30, 1)").due("shear(1, -9)", 1)
            .columns(0, 1 << 30).due("back()", 0).columns(1 << 30, 0);
        new Asked("28: level").after("page(2)", "dot(0, 4, 1)", "dot(1, 5, 1)").due("level()", 1).columns(32, 32)
            .due("back()", 0).columns(16, 32);
    }

    private static void backAndOn() {
        Asked x = climbing("28: a MOVE behind one that was taken back", 9).due("back()", 7).due("back()", 6);
        x.columns(0, 1 << 24).due("shear(0, 16)", 1).due("many(5)", 7).columns(0, 1 << 23).due("shear(0, -16)", 1);
        x.due("many(5)", 8).columns(0, 1 << 24).due("back()", 7).columns(0, 1 << 23).due("back()", 6);
        x.columns(0, 1 << 24).due("back()", 5).columns(0, 1 << 25);
    }

    private static void backOfForgottenMoves() {
        for (String call : new String[] {"page(2)", "dot(0, 0, 0)", "row(0, 0)"}) {
            Asked x = new Asked("28: forgotten by " + call).after("page(2)", "blank(0, 0, 0)");
            for (int move = 0; move < 9; move++) {
                x.after("shear(0, 0)");
            }
            x.due("many(5)", 8).due(call, 0).due("many(5)", 0).due("back()", STATE);
            x.due("shear(0, 1)", 0).due("many(5)", 1).due("back()", 0).due("back()", STATE);
        }
        for (String call : new String[] {"page(0)", "dot(2, 0, 0)", "dot(0, 0, 2)", "row(32, 0)", "row(0, 3)"}) {
            new Asked("28: not forgotten by " + call).after("page(2)", "dot(1, 9, 1)", "shear(0, 8)", call)
                .due("many(5)", 1).due("back()", 0).columns(0, 512);
        }
    }

    private static void backOfFullPage() {
        Asked x = new Asked("28: a full PAGE").full().after("level()", "shear(1, 0)").due("back()", 1).due("back()", 0);
        for (int k = 0; k < 24; k++) {
            x.due("column(" + k + ")", ALL);
        }
    }

    private static void backLeavesOtherThings() {
        new Asked("28: CARDS and fault() stay").after("page(2)", "dot(1, 9, 1)", "shear(0, 8)", "take(0, 8)")
            .after("put(0, 1, 0)", "put(0, 2, 0)").due("back()", 0).due("fault()", 3).numbers(0, 0, 0)
            .due("many(0)", 2);
    }

    private static void backRefused() {
        new Twins("28: there is none").refused("back()", STATE, STAYS);
        new Twins("28: there is none any more", "page(2)", "dot(1, 9, 1)", "shear(0, 8)", "back()", "blank(0, 2, 3)")
            .refused("back()", STATE, STAYS);
        new Twins("28: they are forgotten", "page(2)", "dot(1, 9, 1)", "shear(0, 8)", "dot(0, 3, 1)")
            .refused("back()", STATE, STAYS);
    }

    private static void faultAheadOfAny() {
        new Asked("29: 0 ahead of any").due("fault()", 0).after("page(2)", "dot(5, 5, 5)", "take(0, 0)", "lose(9)")
            .due("fault()", 0);
    }

    private static void faultOfEachCall() {
        String[] past = {"blank(0, 2, 4)", "blank(1, 3, 4)"};
        new Asked("29: NULL of row").after(past).due("row(0, 3)", NULL).due("fault()", 1).due("fault()", 1);
        new Asked("29: SIZE of blank").after(past).due("blank(0, 0, -1)", SIZE).due("fault()", 4).due("fault()", 4);
        new Asked("29: NULL of put").after(past).due("put(3, 0, 0)", NULL).due("fault()", 1);
        new Asked("29: INDEX of put").after(past).due("put(0, 4, 0)", INDEX).due("fault()", 3).due("fault()", 3);
        new Asked("29: NULL of get").after(past).due("get(3, 0)", LOST).due("fault()", 1);
        new Asked("29: INDEX of get").after(past).due("get(0, 4)", LOST).due("fault()", 3);
        new Asked("29: NULL of copy, the first").after(past).due("copy(3, 0, 0, 0, 0)", NULL).due("fault()", 1);
        new Asked("29: NULL of copy, the other").after(past).due("copy(0, 0, 3, 0, 0)", NULL).due("fault()", 1);
        new Asked("29: STORE of copy").after(past).due("copy(0, 0, 1, 0, 0)", STORE).due("fault()", 2).due("fault()", 2);
        new Asked("29: INDEX of copy").after(past).due("copy(0, 0, 0, 0, 5)", INDEX).due("fault()", 3);
    }

    /** Behind each call that comes to a FAULT, one that comes to none. */
    private static void faultOfDoneCalls() {
        String[] faults = {"row(0, 3)", "blank(0, 0, -1)", "put(0, 4, 0)", "get(0, -1)", "copy(0, 0, 1, 0, 0)"};
        String[] done = {"row(0, 0)", "blank(2, 0, 1)", "put(0, 3, 1)", "get(0, 3)", "copy(0, 0, 0, 1, 3)"};
        for (String fault : faults) {
            for (String call : done) {
                new Asked("29: it came to none").after("blank(0, 2, 4)", "blank(1, 3, 4)", fault, call)
                    .due("fault()", 0);
            }
        }
    }

    private static void faultOfRefusedCalls() {
        String[] refused = {
            "row(32, 0)", "row(0, 4)", "blank(4, 0, 0)", "blank(0, 4, 0)", "blank(0, 0, 33)", "put(4, 0, 0)", "get(4, 0)",
            "copy(4, 0, 0, 0, 0)", "copy(0, 0, 4, 0, 0)", "row(32, 3)", "blank(0, 4, -1)", "put(-1, -1, 0)", "get(-1, -1)",
        };
        for (String call : refused) {
            new Asked("29: it was refused").after("blank(0, 2, 4)", "put(0, 4, 0)").due("fault()", 3).after(call)
                .due("fault()", 0);
        }
    }

    /** Calls that name no FAULTS, done and refused. */
    private static void faultStays() {
        String[] calls = {
            "page(3)", "page(0)", "dot(0, 0, 1)", "dot(0, 0, 2)", "dot(24, 0, 1)", "column(0)", "column(24)", "take(0, 0)",
            "take(4, 0)", "lose(0)", "lose(1)", "lose(4)", "shift(0, 1, 1)", "shift(2, 0, 0)", "shift(0, 0, 24)",
            "profile(0, 0, 0)", "profile(0, 0, 100)", "sharp(0, 0)", "sharp(0, 17)", "best(0)", "best(2)", "found(1)",
            "found(2)", "tried(0, 0)", "tried(0, 32)", "tried(0, 33)", "shear(0, 1)", "shear(1, 16)", "shear(2, 0)",
            "run(0, 0)", "run(9, 0)", "run(0, 4)", "stroke(0, 0)", "stroke(9, 0)", "stroke(0, 6)", "baseline(0)",
            "baseline(3)", "foot(0)", "foot(24)", "curl(0)", "curl(24)", "mean()", "rest()", "slope()", "level()", "back()",
            "fault()", "many(0)", "many(7)",
        };
        for (String call : calls) {
            new Asked("29: " + call + " names none").after("dot(2, 4, 1)", "blank(0, 2, 4)", "put(0, 4, 0)", call)
                .due("fault()", 3);
            new Asked("29: " + call + " names none, no DOTS").after("blank(0, 0, -1)", call).due("fault()", 4);
        }
    }

    private static void manyOfNothing() {
        new Asked("30: nothing").due("many(0)", 24).due("many(1)", 0).due("many(2)", 0).due("many(3)", 0)
            .due("many(4)", 0).due("many(5)", 0).due("many(6)", 0);
    }

    private static void manyColumns() {
        new Asked("30: columns").due("many(0)", 24).after("page(1)").due("many(0)", 1).after("page(24)")
            .due("many(0)", 24).after("page(25)").due("many(0)", 24).after("page(0)").due("many(0)", 24);
    }

    private static void manyDots() {
        new Asked("30: INK").after("dot(23, 31, 1)").due("many(1)", 1).full().due("many(1)", 768)
            .after("dot(0, 0, 0)").due("many(1)", 767).after("page(24)").due("many(1)", 0);
        new Asked("30: INK behind MOVES").after("page(3)", "dot(1, 9, 1)", "dot(2, 9, 1)", "shear(0, 8)", "shear(1, 1)")
            .due("many(1)", 2).after("back()").due("many(1)", 2);
    }

    private static void manyRuns() {
        new Asked("30: RUNS").filled(0, 31, 1, 2).due("many(2)", 384).after("dot(1, 0, 1)").due("many(2)", 383)
            .after("dot(23, 31, 1)").due("many(2)", 383);
        new Asked("30: RUNS of a full PAGE").full().due("many(2)", 32).after("dot(0, 0, 0)").due("many(2)", 32)
            .after("dot(5, 0, 0)").due("many(2)", 33);
    }

    private static void manyStrokes() {
        new Asked("30: STROKES").filled(0, 31, 2, 2).due("many(3)", 192).after("dot(1, 1, 1)").due("many(3)", 189);
        new Asked("30: STROKES of a full PAGE").full().due("many(3)", 1);
    }

    private static void manyFeet() {
        new Asked("30: FEET").filled(0, 31, 2, 1).due("many(4)", 384).after("dot(0, 31, 1)").due("many(4)", 384)
            .after("dot(0, 1, 1)").due("many(4)", 383);
        new Asked("30: FEET of a full PAGE").full().due("many(4)", 24).after("dot(0, 31, 0)").due("many(4)", 24)
            .after("dot(0, 15, 0)").due("many(4)", 25);
    }

    private static void manyMoves() {
        Asked x = new Asked("30: MOVES that can be taken back").due("many(5)", 0);
        for (int move = 1; move <= 20; move++) {
            x.after("shear(0, 16)").due("many(5)", Math.min(move, 8));
        }
        x.after("shear(0, 17)").due("many(5)", 8).after("back()").due("many(5)", 7);
    }

    private static void manyCards() {
        Asked x = new Asked("30: CARDS that have something").due("many(6)", 0).after("blank(3, 0, 0)").due("many(6)", 1);
        x.after("take(0, 0)").due("many(6)", 2).after("blank(1, 0, 32)", "take(1, 0)").due("many(6)", 3);
        x.after("blank(2, 3, 1)").due("many(6)", 4).after("blank(4, 0, 1)", "blank(0, 0, -1)").due("many(6)", 4);
        x.after("lose(0)", "lose(0)").due("many(6)", 3).after("lose(1)", "lose(2)", "lose(3)").due("many(6)", 0);
    }

    private static void manyRefused() {
        new Twins("30: neither 0 nor 6", Pasts.BUSY).refusedFor("many(?)", OUTSIDE, STAYS,
            "-1", "7", "8", "LEAST", "GREATEST");
        new Twins("30: neither 0 nor 6, a new object").refusedFor("many(?)", OUTSIDE, STAYS, "-1", "7");
        new Twins("30: an answer changes nothing", Pasts.BUSY).refused("many(0)", 6, STAYS).refused("many(3)", 4, STAYS)
            .refused("many(4)", 4, STAYS).refused("many(5)", 8, STAYS).refused("many(6)", 3, STAYS);
    }

    private static void lastCallOfAnObject() {
        Asked x = new Asked("at most 512 calls").after("page(2)", "dot(1, 9, 1)");
        for (int move = 0; move < 254; move++) {
            x.due("shear(0, 16)", 1).due("shear(0, -16)", 1);
        }
        x.due("back()", 7).due("column(1)", 256);
        x = new Asked("at most 512 calls: a refused one").after("dot(0, 0, 1)");
        for (int call = 1; call < 511; call++) {
            x.due("dot(0, 0, 1)", 1);
        }
        x.due("dot(24, 0, 1)", UNKNOWN);
    }
}
