/** The boundary cases of promises 1 to 4: a new object, page, dot, column. */
public final class PageEdgesTest {
    private static final int UNKNOWN = LevelledInk.UNKNOWN, OUTSIDE = LevelledInk.OUTSIDE;
    private static final int STATE = LevelledInk.STATE, NONE = LevelledInk.NONE;
    private static final long LOST = LevelledInk.LOST;
    private static final int STAYS = Twins.STAYS;
    private static final long ALL = 4294967295L, BOTTOM = 2147483648L;

    public static void main(String[] args) {
        newHasColumns();
        newHasNoDots();
        newCardsHaveNothing();
        newHasNoMoves();
        objectsAreApart();
        pageOfEachWidth();
        pageTellsInk();
        pageIsWithoutDots();
        pageForgetsMoves();
        pageLeavesCards();
        pageRefused();
        dotInEachCorner();
        dotAgain();
        dotOnFullPage();
        dotForgetsMoves();
        dotRefused();
        dotRefusedInOrder();
        columnOfNone();
        columnOfAll();
        columnOfOneRow();
        columnRefused();
        Due.end();
    }

    private static void newHasColumns() {
        new Asked("1: 24 columns").due("many(0)", 24).due("column(0)", 0).due("column(23)", 0).due("column(24)", LOST);
        new Asked("1: the last place").due("dot(23, 31, 1)", 0).due("dot(24, 31, 1)", UNKNOWN)
            .due("dot(23, 32, 1)", UNKNOWN);
    }

    private static void newHasNoDots() {
        Asked x = new Asked("1: no DOTS");
        for (int k = 0; k < 24; k++) {
            x.due("column(" + k + ")", 0);
        }
        for (int what = 1; what <= 6; what++) {
            x.due("many(" + what + ")", 0);
        }
        x.due("run(0, 0)", UNKNOWN).due("stroke(0, 0)", UNKNOWN).due("baseline(0)", NONE).due("baseline(1)", NONE);
        x.due("baseline(2)", NONE).due("foot(0)", NONE).due("foot(23)", NONE).due("curl(0)", STATE);
        x.due("curl(23)", STATE).due("mean()", LOST).due("rest()", LOST).due("slope()", STATE).due("level()", STATE);
        x.due("sharp(0, 16)", 0).due("sharp(1, -16)", 0).due("best(0)", 100).due("best(1)", 100);
        x.due("found(0)", 100).due("found(1)", 100);
    }

    private static void newCardsHaveNothing() {
        Asked x = new Asked("1: CARDS have nothing").due("fault()", 0).due("many(6)", 0);
        for (int card = 0; card < 4; card++) {
            x.due("get(" + card + ", 0)", LOST).due("fault()", 1).due("lose(" + card + ")", 0);
        }
    }

    private static void newHasNoMoves() {
        new Asked("1: no MOVES").due("many(5)", 0).due("back()", STATE);
    }

    private static void objectsAreApart() {
        Asked one = new Asked("1: another object");
        new Asked("1: an object").after("page(3)", "dot(2, 31, 1)", "blank(0, 0, 1)", "shear(0, 0)", "put(1, 0, 0)")
            .due("fault()", 1);
        one.due("many(0)", 24).due("many(1)", 0).due("many(5)", 0).due("many(6)", 0).due("fault()", 0);
    }

    private static void pageOfEachWidth() {
        for (int w = 1; w <= 24; w++) {
            int last = w - 1;
            new Asked("2: a PAGE of " + w).due("page(" + w + ")", 0).due("many(0)", w).due("column(" + last + ")", 0)
                .due("column(" + w + ")", LOST).due("dot(" + w + ", 0, 1)", UNKNOWN)
                .due("dot(" + last + ", 31, 1)", 0).due("column(" + last + ")", BOTTOM).due("many(1)", 1);
        }
    }

    private static void pageTellsInk() {
        new Asked("2: how much INK: none").due("page(24)", 0);
        new Asked("2: how much INK: one DOT").after("dot(0, 0, 1)").due("page(24)", 1).due("page(24)", 0);
        new Asked("2: how much INK: a full PAGE").full().due("page(1)", 768).due("page(24)", 0);
        new Asked("2: how much INK: a full PAGE of 1").after("page(1)").full().due("page(1)", 32);
    }

    private static void pageIsWithoutDots() {
        Asked x = new Asked("2: without DOTS, as wide").full().after("page(24)").due("many(1)", 0);
        for (int k = 0; k < 24; k++) {
            x.due("column(" + k + ")", 0);
        }
        x = new Asked("2: without DOTS, narrow and wide again").full().after("page(1)", "page(24)").due("many(1)", 0);
        for (int k = 0; k < 24; k++) {
            x.due("column(" + k + ")", 0);
        }
    }

    private static void pageForgetsMoves() {
        new Asked("2: MOVES are forgotten").after("shear(0, 1)", "shear(1, 1)").due("many(5)", 2).due("page(24)", 0)
            .due("many(5)", 0).due("back()", STATE);
    }

    private static void pageLeavesCards() {
        new Asked("2: CARDS and fault() stay").after("blank(0, 0, 2)", "put(0, 1, -128)", "take(3, 0)", "put(0, 2, 0)")
            .due("page(1)", 0).due("fault()", 3).due("many(6)", 2).numbers(0, 0, -128).due("get(3, 23)", 0)
            .due("get(3, 24)", LOST);
    }

    private static void pageRefused() {
        new Twins("2: below 1, above 24", Pasts.BUSY).refusedFor("page(?)", OUTSIDE, STAYS,
            "0", "-1", "25", "32", "LEAST", "GREATEST");
        new Twins("2: a new object").refusedFor("page(?)", OUTSIDE, STAYS, "0", "25");
    }

    private static void dotInEachCorner() {
        new Asked("3: corners").due("dot(0, 0, 1)", 0).due("dot(0, 31, 1)", 0).due("dot(23, 0, 1)", 0)
            .due("dot(23, 31, 1)", 0).due("column(0)", BOTTOM + 1).due("column(23)", BOTTOM + 1)
            .due("column(1)", 0).due("column(22)", 0).due("many(1)", 4);
        new Asked("3: one column").after("page(1)").due("dot(0, 0, 1)", 0).due("dot(0, 31, 1)", 0)
            .columns(BOTTOM + 1);
    }

    private static void dotAgain() {
        new Asked("3: whether there was").due("dot(5, 6, 0)", 0).due("dot(5, 6, 1)", 0).due("dot(5, 6, 1)", 1)
            .due("many(1)", 1).due("dot(5, 6, 0)", 1).due("dot(5, 6, 0)", 0).due("many(1)", 0);
    }

    private static void dotOnFullPage() {
        new Asked("3: a full PAGE").full().due("dot(23, 31, 1)", 1).due("many(1)", 768).due("dot(23, 31, 0)", 1)
            .due("many(1)", 767).due("column(23)", ALL - BOTTOM).due("column(22)", ALL).due("dot(23, 31, 1)", 0)
            .due("column(23)", ALL);
    }

    private static void dotForgetsMoves() {
        new Asked("3: MOVES are forgotten, one comes").after("shear(0, 1)").due("dot(0, 0, 1)", 0).due("many(5)", 0)
            .due("back()", STATE);
        new Asked("3: MOVES are forgotten, none changes").after("shear(0, 1)").due("dot(0, 0, 0)", 0).due("many(5)", 0)
            .due("back()", STATE);
        new Asked("3: MOVES are forgotten, it was there").after("dot(0, 0, 1)", "shear(0, 1)").due("dot(0, 0, 1)", 1)
            .due("many(5)", 0).due("back()", STATE);
    }

    private static void dotRefused() {
        Twins busy = new Twins("3: no such column", Pasts.BUSY);
        busy.refusedFor("dot(?, 0, 1)", UNKNOWN, STAYS, "-1", "6", "23", "24", "LEAST", "GREATEST");
        busy = new Twins("3: no such row", Pasts.BUSY);
        busy.refusedFor("dot(0, ?, 1)", UNKNOWN, STAYS, "-1", "32", "33", "64", "LEAST", "GREATEST");
        busy = new Twins("3: neither 0 nor 1", Pasts.BUSY);
        busy.refusedFor("dot(5, 31, ?)", OUTSIDE, STAYS, "-1", "2", "3", "LEAST", "GREATEST");
        new Twins("3: 24 columns").refusedFor("dot(?, 0, 1)", UNKNOWN, STAYS, "-1", "24");
    }

    private static void dotRefusedInOrder() {
        new Twins("3: UNKNOWN ahead of OUTSIDE", Pasts.BUSY).refused("dot(6, 0, 2)", UNKNOWN, STAYS)
            .refused("dot(0, 32, -1)", UNKNOWN, STAYS).refused("dot(-1, -1, -1)", UNKNOWN, STAYS);
    }

    private static void columnOfNone() {
        new Asked("4: no DOTS").after("page(2)").columns(0, 0);
    }

    private static void columnOfAll() {
        new Asked("4: all DOTS").after("page(2)").full().columns(ALL, ALL);
    }

    private static void columnOfOneRow() {
        for (int r = 0; r < 32; r++) {
            new Asked("4: bit " + r).after("page(3)", "dot(1, " + r + ", 1)").columns(0, 1L << r, 0);
        }
    }

    private static void columnRefused() {
        new Twins("4: no such column", Pasts.BUSY).refusedFor("column(?)", LOST, STAYS,
            "-1", "6", "23", "24", "LEAST", "GREATEST");
        new Twins("4: 24 columns").refusedFor("column(?)", LOST, STAYS, "-1", "24");
    }
}
