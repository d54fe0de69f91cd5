/** The boundary cases of promises 12 to 18: shift, profile, sharp, best, found, tried, shear. */
public final class ShearEdgesTest {
    private static final int UNKNOWN = LevelledInk.UNKNOWN, OUTSIDE = LevelledInk.OUTSIDE;
    private static final int STATE = LevelledInk.STATE, NONE = LevelledInk.NONE;
    private static final int STAYS = Twins.STAYS;
    private static final long BOTTOM = 2147483648L;
    private static final String[] NO_AXES = {"-1", "2", "LEAST", "GREATEST"};
    private static final String[] NO_SHEARS = {"-17", "17", "LEAST", "GREATEST"};

    public static void main(String[] args) {
        shiftOfFirstAndLast();
        shiftOfHalves();
        shiftOfNarrowPage();
        shiftRefused();
        shiftRefusedInOrder();
        profileOfNoDots();
        profileOfFullPage();
        profileBeyondThePage();
        profileAsFarAsAsked();
        profileRefused();
        sharpOfNoDots();
        sharpOfFullPage();
        sharpAtBothEnds();
        sharpestPages();
        sharpRefused();
        bestOfAsSharp();
        bestAtTheEnds();
        bestOfFullPage();
        bestRefused();
        foundAtTheEnds();
        foundOfAsSharp();
        foundIsOfTheTried();
        foundOfFullPage();
        foundRefused();
        triedOfNoDots();
        triedAtTheEnds();
        triedSameBest();
        triedAsManyAsAsked();
        triedRefused();
        shearLeastAndGreatest();
        shearOfNoDots();
        shearOfFullPage();
        shearOfOneColumn();
        shearUpToTheEdge();
        shearRefused();
        shearLeavesThePage();
        shearRefusedInOrder();
        asksChangeNothing();
        Due.end();
    }

    private static Asked page(String about, int w, int... columnsAndRows) {
        Asked x = new Asked(about).after("page(" + w + ")");
        for (int i = 0; i < columnsAndRows.length; i += 2) {
            x.after("dot(" + columnsAndRows[i] + ", " + columnsAndRows[i + 1] + ", 1)");
        }
        return x;
    }

    private static Asked falling(String about) {
        Asked x = new Asked(about);
        for (int k = 0; k < 24; k++) {
            x.after("dot(" + k + ", " + k + ", 1)");
        }
        return x;
    }

    private static Asked rising(String about) {
        Asked x = new Asked(about);
        for (int k = 0; k < 24; k++) {
            x.after("dot(" + k + ", " + (31 - k) + ", 1)");
        }
        return x;
    }

    private static void shiftOfFirstAndLast() {
        new Asked("12: SKEW, columns 0 and 23").due("shift(0, -16, 0)", 0).due("shift(0, 16, 0)", 0)
            .due("shift(0, -16, 23)", -23).due("shift(0, 16, 23)", 23).due("shift(0, 0, 23)", 0)
            .due("shift(0, -15, 23)", -22).due("shift(0, 15, 23)", 22).due("shift(0, 1, 23)", 1)
            .due("shift(0, -1, 23)", -1);
        new Asked("12: SLANT, rows 0 and 31").due("shift(1, -16, 31)", 0).due("shift(1, 16, 31)", 0)
            .due("shift(1, -16, 0)", -31).due("shift(1, 16, 0)", 31).due("shift(1, 0, 0)", 0)
            .due("shift(1, 16, 30)", 1).due("shift(1, -16, 30)", -1);
    }

    private static void shiftOfHalves() {
        new Asked("12: ROUNDED, SKEW, a half").due("shift(0, 1, 8)", 1).due("shift(0, -1, 8)", 0)
            .due("shift(0, 8, 1)", 1).due("shift(0, -8, 1)", 0).due("shift(0, 3, 8)", 2).due("shift(0, -3, 8)", -1)
            .due("shift(0, 8, 23)", 12).due("shift(0, -8, 23)", -11);
        new Asked("12: ROUNDED, SKEW, below and above a half").due("shift(0, 1, 7)", 0).due("shift(0, 1, 9)", 1)
            .due("shift(0, -1, 7)", 0).due("shift(0, -1, 9)", -1).due("shift(0, 7, 1)", 0).due("shift(0, -9, 1)", -1);
        new Asked("12: ROUNDED, SLANT, a half").due("shift(1, 1, 23)", 1).due("shift(1, -1, 23)", 0)
            .due("shift(1, 8, 30)", 1).due("shift(1, -8, 30)", 0).due("shift(1, 8, 0)", 16).due("shift(1, -8, 0)", -15);
        new Asked("12: ROUNDED, SLANT, below and above a half").due("shift(1, 1, 24)", 0).due("shift(1, 1, 22)", 1)
            .due("shift(1, -1, 24)", 0).due("shift(1, -1, 22)", -1);
    }

    private static void shiftOfNarrowPage() {
        new Asked("12: one column").after("page(1)").due("shift(0, 16, 0)", 0).due("shift(0, 16, 1)", UNKNOWN)
            .due("shift(1, 16, 0)", 31).due("shift(1, 16, 31)", 0).due("shift(1, 16, 32)", UNKNOWN);
        new Asked("12: 24 columns").due("shift(0, 1, 24)", UNKNOWN).due("shift(0, 1, 31)", UNKNOWN)
            .due("shift(1, 1, 24)", 0);
    }

    private static void shiftRefused() {
        new Twins("12: no such AXIS", Pasts.BUSY).refusedFor("shift(?, 0, 0)", OUTSIDE, STAYS, NO_AXES);
        new Twins("12: no such SHEAR, SKEW", Pasts.BUSY).refusedFor("shift(0, ?, 0)", OUTSIDE, STAYS, NO_SHEARS);
        new Twins("12: no such SHEAR, SLANT", Pasts.BUSY).refusedFor("shift(1, ?, 0)", OUTSIDE, STAYS, NO_SHEARS);
        new Twins("12: no such column", Pasts.BUSY).refusedFor("shift(0, 16, ?)", UNKNOWN, STAYS,
            "-1", "6", "24", "LEAST", "GREATEST");
        new Twins("12: no such row", Pasts.BUSY).refusedFor("shift(1, 16, ?)", UNKNOWN, STAYS,
            "-1", "32", "LEAST", "GREATEST");
    }

    private static void shiftRefusedInOrder() {
        new Twins("12: OUTSIDE ahead of UNKNOWN", Pasts.BUSY).refused("shift(2, 0, -1)", OUTSIDE, STAYS)
            .refused("shift(0, 17, 6)", OUTSIDE, STAYS).refused("shift(1, -17, 32)", OUTSIDE, STAYS)
            .refused("shift(-1, -17, -1)", OUTSIDE, STAYS);
    }

    private static void profileOfNoDots() {
        new Asked("13: no DOTS").due("profile(0, 0, 0)", 0).due("profile(0, 16, -23)", 0).due("profile(1, -16, 54)", 0)
            .due("profile(1, 16, -31)", 0);
    }

    private static void profileOfFullPage() {
        Asked x = new Asked("13: a full PAGE").full();
        x.due("profile(0, 0, -1)", 0).due("profile(0, 0, 0)", 24).due("profile(0, 0, 31)", 24);
        x.due("profile(0, 0, 32)", 0).due("profile(1, 0, -1)", 0).due("profile(1, 0, 0)", 32);
        x.due("profile(1, 0, 23)", 32).due("profile(1, 0, 24)", 0);
        x.due("profile(0, 16, -24)", 0).due("profile(0, 16, -23)", 1).due("profile(0, 16, -22)", 2);
        x.due("profile(0, 16, -1)", 23).due("profile(0, 16, 0)", 24).due("profile(0, 16, 8)", 24);
        x.due("profile(0, 16, 9)", 23).due("profile(0, 16, 31)", 1).due("profile(0, 16, 32)", 0);
        x.due("profile(0, -16, -1)", 0).due("profile(0, -16, 0)", 1).due("profile(0, -16, 23)", 24);
        x.due("profile(0, -16, 54)", 1).due("profile(0, -16, 55)", 0);
        x.due("profile(1, 16, -32)", 0).due("profile(1, 16, -31)", 1).due("profile(1, 16, 23)", 1);
        x.due("profile(1, 16, 24)", 0).due("profile(1, -16, -1)", 0).due("profile(1, -16, 0)", 1);
        x.due("profile(1, -16, 54)", 1).due("profile(1, -16, 55)", 0).due("profile(1, -16, 53)", 2);
    }

    private static void profileBeyondThePage() {
        page("13: any whole number, SKEW", 24, 23, 0, 23, 31).due("profile(0, 16, -23)", 1).due("profile(0, 16, 8)", 1)
            .due("profile(0, -16, 23)", 1).due("profile(0, -16, 54)", 1);
        page("13: any whole number, SLANT", 24, 0, 0, 23, 0).due("profile(1, 16, -31)", 1).due("profile(1, 16, -8)", 1)
            .due("profile(1, -16, 31)", 1).due("profile(1, -16, 54)", 1);
    }

    private static void profileAsFarAsAsked() {
        Asked x = new Asked("13: i -99 .. 99").full();
        for (int i : new int[] {-99, -98, -32, 55, 98, 99}) {
            for (int s : new int[] {-16, 0, 16}) {
                x.due("profile(0, " + s + ", " + i + ")", 0).due("profile(1, " + s + ", " + i + ")", 0);
            }
        }
    }

    private static void profileRefused() {
        String[] noPlaces = {"-100", "100", "LEAST", "GREATEST"};
        new Twins("13: no such AXIS", Pasts.BUSY).refusedFor("profile(?, 0, 0)", OUTSIDE, STAYS, NO_AXES);
        new Twins("13: no such SHEAR, SKEW", Pasts.BUSY).refusedFor("profile(0, ?, 0)", OUTSIDE, STAYS, NO_SHEARS);
        new Twins("13: no such SHEAR, SLANT", Pasts.BUSY).refusedFor("profile(1, ?, 0)", OUTSIDE, STAYS, NO_SHEARS);
        new Twins("13: no such place, SKEW", Pasts.BUSY).refusedFor("profile(0, 0, ?)", OUTSIDE, STAYS, noPlaces);
        new Twins("13: no such place, SLANT", Pasts.BUSY).refusedFor("profile(1, 16, ?)", OUTSIDE, STAYS, noPlaces);
        new Twins("13: no DOTS").refused("profile(2, 17, 100)", OUTSIDE, STAYS);
    }

    private static void sharpOfNoDots() {
        Asked x = new Asked("14: no DOTS");
        for (int s = -16; s <= 16; s++) {
            x.due("sharp(0, " + s + ")", 0).due("sharp(1, " + s + ")", 0);
        }
    }

    private static void sharpOfFullPage() {
        // At 16 the PROFILE goes up and down again by 24 steps of 1.
        new Asked("14: a full PAGE").full().due("sharp(0, 0)", 2 * 24 * 24).due("sharp(1, 0)", 2 * 32 * 32)
            .due("sharp(0, 16)", 48).due("sharp(0, -16)", 48).due("sharp(1, 16)", 48).due("sharp(1, -16)", 48);
        new Asked("14: a full PAGE of one column").after("page(1)").full().due("sharp(0, 0)", 2).due("sharp(0, 16)", 2)
            .due("sharp(1, 0)", 2 * 32 * 32).due("sharp(1, 16)", 2).due("sharp(1, -16)", 2);
    }

    private static void sharpAtBothEnds() {
        page("14: the least place, SKEW", 24, 23, 0).due("sharp(0, 16)", 2);
        page("14: the greatest place, SKEW", 24, 23, 31).due("sharp(0, -16)", 2);
        page("14: the least place, SLANT", 24, 0, 0).due("sharp(1, 16)", 2);
        page("14: the greatest place, SLANT", 24, 23, 0).due("sharp(1, -16)", 2);
        page("14: two at the greatest place", 24, 23, 0, 22, 0).due("sharp(1, -16)", 2);
        page("14: row 31 and row 0 are no neighbours", 2, 0, 0, 0, 31).due("sharp(0, 0)", 4);
        page("14: neighbours", 2, 0, 30, 0, 31).due("sharp(0, 0)", 2).due("sharp(1, 0)", 8);
    }

    private static void sharpestPages() {
        new Asked("14: every other row").filled(0, 31, 2, 1).due("sharp(0, 0)", 16 * 2 * 24 * 24)
            .due("sharp(1, 0)", 2 * 16 * 16);
        new Asked("14: every other column").filled(0, 31, 1, 2).due("sharp(1, 0)", 12 * 2 * 32 * 32)
            .due("sharp(0, 0)", 2 * 12 * 12);
    }

    private static void sharpRefused() {
        new Twins("14: no such AXIS", Pasts.BUSY).refusedFor("sharp(?, 0)", OUTSIDE, STAYS, NO_AXES);
        new Twins("14: no such SHEAR, SKEW", Pasts.BUSY).refusedFor("sharp(0, ?)", OUTSIDE, STAYS, NO_SHEARS);
        new Twins("14: no such SHEAR, SLANT", Pasts.BUSY).refusedFor("sharp(1, ?)", OUTSIDE, STAYS, NO_SHEARS);
    }

    private static void bestOfAsSharp() {
        new Asked("15: all as sharp, no DOTS").due("best(0)", 100).due("best(1)", 100);
        page("15: all as sharp, one DOT", 24, 23, 0).due("best(0)", 100).due("best(1)", 100);
        // Column 1 goes up by 1 from SHEAR 8 on, and down by 1 from -9 on.
        page("15: the one nearest to 0, above 0", 2, 0, 5, 1, 6).due("sharp(0, 7)", 2).due("sharp(0, 8)", 8)
            .due("sharp(0, 16)", 8).due("best(0)", 108);
        page("15: the one nearest to 0, below 0", 2, 0, 5, 1, 4).due("sharp(0, -8)", 2).due("sharp(0, -9)", 8)
            .due("sharp(0, -16)", 8).due("best(0)", 91);
        page("15: of two as near the lesser one", 4, 0, 5, 3, 4, 3, 6).due("sharp(0, -3)", 10).due("sharp(0, 3)", 10)
            .due("sharp(0, -2)", 2).due("sharp(0, 2)", 2).due("best(0)", 97);
        page("15: nearer, though greater", 2, 0, 5, 1, 6, 1, 4).due("sharp(0, 8)", 10).due("sharp(0, -9)", 10)
            .due("sharp(0, -8)", 2).due("best(0)", 108);
    }

    private static void bestAtTheEnds() {
        falling("15: the greatest SHEAR").due("sharp(0, 16)", 1152).due("best(0)", 116).due("best(1)", 84);
        rising("15: the least SHEAR").due("sharp(0, -16)", 1152).due("best(0)", 84).due("best(1)", 116);
    }

    private static void bestOfFullPage() {
        new Asked("15: a full PAGE").full().due("best(0)", 100).due("best(1)", 100);
        new Asked("15: one column").after("page(1)").full().due("best(0)", 100).due("best(1)", 100);
    }

    private static void bestRefused() {
        new Twins("15: no such AXIS", Pasts.BUSY).refusedFor("best(?)", OUTSIDE, STAYS, NO_AXES);
        new Twins("15: no such AXIS, no DOTS").refusedFor("best(?)", OUTSIDE, STAYS, "-1", "2");
    }

    private static void foundAtTheEnds() {
        falling("16: the greatest SHEAR").due("found(0)", 116).due("found(1)", 84);
        rising("16: the least SHEAR").due("found(0)", 84).due("found(1)", 116);
    }

    private static void foundOfAsSharp() {
        new Asked("16: all as sharp").due("found(0)", 100).due("found(1)", 100);
        page("16: the one nearest to 0", 2, 0, 5, 1, 6).due("found(0)", 108);
        page("16: of two as near the lesser one", 4, 0, 5, 3, 4, 3, 6).due("found(0)", 97);
    }

    private static void foundIsOfTheTried() {
        // The DOTS meet at SHEAR -1, which is not tried; of those that are none is sharper than -6.
        page("16: the BEST of all that were tried", 6, 2, 1, 3, 9).due("sharp(1, -1)", 8).due("best(1)", 99)
            .due("sharp(1, -6)", 4).due("found(1)", 94);
    }

    private static void foundOfFullPage() {
        new Asked("16: a full PAGE").full().due("found(0)", 100).due("found(1)", 100);
    }

    private static void foundRefused() {
        new Twins("16: no such AXIS", Pasts.BUSY).refusedFor("found(?)", OUTSIDE, STAYS, NO_AXES);
        new Twins("16: no such AXIS, no DOTS").refusedFor("found(?)", OUTSIDE, STAYS, "-1", "2");
    }

    private static void tried(Asked x, int axis, int... shears) {
        for (int k = 0; k < shears.length; k++) {
            x.due("tried(" + axis + ", " + k + ")", shears[k] + 100);
        }
        for (int k = shears.length; k <= 32; k++) {
            x.due("tried(" + axis + ", " + k + ")", NONE);
        }
    }

    private static void triedOfNoDots() {
        Asked x = new Asked("17: no DOTS");
        tried(x, 0, -16, -8, 0, 8, 16, -4, 4, -2, 2, -1, 1);
        tried(x, 1, -16, -8, 0, 8, 16, -4, 4, -2, 2, -1, 1);
    }

    /** Beyond the ends there is no SHEAR to be tried: 8, 9 or 10 are tried, and not 11. */
    private static void triedAtTheEnds() {
        tried(falling("17: 16 to the last"), 0, -16, -8, 0, 8, 16, 12, 14, 15);
        tried(rising("17: -16 to the last"), 0, -16, -8, 0, 8, 16, -12, -14, -15);
        tried(page("17: 16, 16, 14", 5, 2, 0, 4, 2).due("found(0)", 114), 0, -16, -8, 0, 8, 16, 12, 14, 13, 15);
        tried(page("17: -16, -16, -14", 6, 3, 0, 0, 3).due("found(0)", 86), 0, -16, -8, 0, 8, 16, -12, -14, -15, -13);
        tried(page("17: 16, 12", 3, 2, 1, 1, 0).due("found(0)", 112), 0, -16, -8, 0, 8, 16, 12, 10, 14, 11, 13);
        tried(page("17: SLANT, 16 to the last", 8, 5, 2, 0, 7).due("found(1)", 116), 1, -16, -8, 0, 8, 16, 12, 14, 15);
        tried(page("17: SLANT, -16 to the last", 9, 0, 3, 5, 8).due("found(1)", 84),
            1, -16, -8, 0, 8, 16, -12, -14, -15);
    }

    private static void triedSameBest() {
        // They meet from 4 to 11: 4, tried first, is nearer to 0 than 8; 12 is tried all the same.
        tried(page("17: the same BEST and the step", 6, 0, 6, 2, 7).due("found(0)", 104),
            0, -16, -8, 0, 8, 16, 4, 12, 2, 6, 3, 5);
    }

    private static void triedAsManyAsAsked() {
        new Asked("17: k 0 .. 32").due("tried(0, 0)", 84).due("tried(0, 4)", 116).due("tried(0, 10)", 101)
            .due("tried(0, 11)", NONE).due("tried(0, 31)", NONE).due("tried(0, 32)", NONE).due("tried(0, 33)", OUTSIDE);
    }

    private static void triedRefused() {
        String[] noNumbers = {"-1", "33", "LEAST", "GREATEST"};
        new Twins("17: no such AXIS", Pasts.BUSY).refusedFor("tried(?, 0)", OUTSIDE, STAYS, NO_AXES);
        new Twins("17: no such k, SKEW", Pasts.BUSY).refusedFor("tried(0, ?)", OUTSIDE, STAYS, noNumbers);
        new Twins("17: no such k, SLANT", Pasts.BUSY).refusedFor("tried(1, ?)", OUTSIDE, STAYS, noNumbers);
        new Twins("17: not so many, but no such AXIS", Pasts.BUSY).refused("tried(2, 32)", OUTSIDE, STAYS);
        new Twins("17: NONE changes nothing", Pasts.BUSY).refused("tried(0, 32)", NONE, STAYS);
    }

    private static void shearLeastAndGreatest() {
        page("18: SHEAR 16, SKEW", 24, 23, 23, 0, 5).due("shear(0, 16)", 1).due("column(23)", 1).due("column(0)", 32);
        page("18: SHEAR -16, SKEW", 24, 23, 8, 0, 5).due("shear(0, -16)", 1).due("column(23)", BOTTOM)
            .due("column(0)", 32);
        page("18: SHEAR 16, SLANT", 24, 23, 8, 5, 31).due("shear(1, 16)", 1).due("column(0)", 256)
            .due("column(23)", 0).due("column(5)", BOTTOM);
        page("18: SHEAR -16, SLANT", 24, 0, 8, 5, 31).due("shear(1, -16)", 1).due("column(23)", 256)
            .due("column(0)", 0).due("column(5)", BOTTOM);
    }

    private static void shearOfNoDots() {
        Asked x = new Asked("18: no DOTS, a MOVE").due("shear(0, 16)", 0).due("shear(0, -16)", 0).due("shear(1, 16)", 0);
        x.due("shear(1, -16)", 0).due("shear(0, 0)", 0).due("many(5)", 5).due("many(1)", 0).due("back()", 4);
    }

    private static void shearOfFullPage() {
        new Asked("18: a full PAGE").full().due("shear(0, 0)", 0).due("shear(1, 0)", 0).due("many(5)", 2)
            .due("many(1)", 768);
        // 1 and -1 are the first to slide column 8 up and column 9 down.
        new Twins("18: a full PAGE", Pasts.FULL).refusedFor("shear(0, ?)", STATE, STAYS, "1", "-1", "16", "-16")
            .refusedFor("shear(1, ?)", STATE, STAYS, "1", "-1", "16", "-16");
    }

    private static void shearOfOneColumn() {
        new Asked("18: one column").after("page(1)").full().due("shear(0, 16)", 0).due("shear(0, -16)", 0)
            .due("many(5)", 2).columns(4294967295L).due("shear(1, 1)", STATE).due("shear(1, -1)", STATE)
            .due("many(5)", 2);
        page("18: one column, row 31", 1, 0, 31).due("shear(1, 16)", 0).due("shear(1, -16)", 0).columns(BOTTOM);
        page("18: one column, rows that do not slide yet", 1, 0, 24).due("shear(1, 1)", 0).due("shear(1, -1)", 0)
            .columns(1 << 24);
        page("18: one column, a half to the left", 1, 0, 23).due("shear(1, -1)", 0).due("shear(1, 1)", STATE)
            .columns(1 << 23);
    }

    private static void shearUpToTheEdge() {
        page("18: to the top", 3, 2, 1, 0, 4).due("shear(0, 8)", 1).columns(16, 0, 1);
        page("18: to the bottom", 3, 2, 30, 0, 4).due("shear(0, -8)", 1).columns(16, 0, BOTTOM);
        page("18: to the first column", 3, 1, 30, 0, 31).due("shear(1, 8)", 1).columns(BOTTOM + (1 << 30), 0, 0);
        page("18: to the last column", 3, 1, 29, 0, 31).due("shear(1, -8)", 1).columns(BOTTOM, 0, 1 << 29);
    }

    private static void shearRefused() {
        new Twins("18: no such AXIS", Pasts.BUSY).refusedFor("shear(?, 0)", OUTSIDE, STAYS, NO_AXES);
        new Twins("18: no such SHEAR, SKEW", Pasts.BUSY).refusedFor("shear(0, ?)", OUTSIDE, STAYS, NO_SHEARS);
        new Twins("18: no such SHEAR, SLANT", Pasts.BUSY).refusedFor("shear(1, ?)", OUTSIDE, STAYS, NO_SHEARS);
    }

    private static void shearLeavesThePage() {
        new Twins("18: above", Pasts.AT_TOP).refusedFor("shear(0, ?)", STATE, STAYS, "16", "8", "2");
        new Twins("18: below", Pasts.AT_BOTTOM).refusedFor("shear(0, ?)", STATE, STAYS, "-16", "-8", "-2");
        new Twins("18: on the left and on the right", Pasts.BUSY).refusedFor("shear(1, ?)", STATE, STAYS, "16", "-16");
        new Twins("18: by one, above", "page(24)", "dot(23, 22, 1)", "dot(0, 5, 1)").refused("shear(0, 16)", STATE, STAYS);
        new Twins("18: by one, below", "page(24)", "dot(23, 9, 1)", "dot(0, 5, 1)").refused("shear(0, -16)", STATE, STAYS);
        new Twins("18: by one, on the left", "page(24)", "dot(22, 8, 1)", "dot(9, 31, 1)")
            .refused("shear(1, 16)", STATE, STAYS);
        new Twins("18: by one, on the right", "page(24)", "dot(1, 8, 1)", "dot(9, 31, 1)")
            .refused("shear(1, -16)", STATE, STAYS);
        new Twins("18: by one, right of a narrow PAGE", "page(3)", "dot(2, 30, 1)", "dot(0, 31, 1)")
            .refused("shear(1, -16)", STATE, STAYS);
        new Twins("18: by the farthest", "page(24)", "dot(0, 0, 1)", "dot(23, 1, 1)", "dot(9, 31, 1)")
            .refused("shear(1, 16)", STATE, STAYS).refused("shear(1, -16)", STATE, STAYS);
    }

    private static void shearRefusedInOrder() {
        new Twins("18: OUTSIDE ahead of STATE", Pasts.BUSY).refused("shear(2, 16)", OUTSIDE, STAYS)
            .refused("shear(1, 17)", OUTSIDE, STAYS).refused("shear(1, -17)", OUTSIDE, STAYS);
    }

    /** What is only asked leaves the PAGE, CARDS, MOVES and fault() as they are. */
    private static void asksChangeNothing() {
        new Twins("12 to 17: an answer changes nothing", Pasts.BUSY).refused("shift(1, 16, 0)", 31, STAYS)
            .refused("profile(0, 0, 29)", 1, STAYS).refused("sharp(0, 0)", 8, STAYS).refused("tried(1, 0)", 84, STAYS);
        new Twins("15, 16: an answer changes nothing", Pasts.AT_TOP).refused("best(0)", 100, STAYS)
            .refused("best(1)", 108, STAYS).refused("found(0)", 100, STAYS).refused("found(1)", 108, STAYS);
    }
}
