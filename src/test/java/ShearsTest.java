/** Promises 12 to 18: shifts, profiles, sharpness, the search, shears as moves. */
public final class ShearsTest {
    private static final int UNKNOWN = LevelledInk.UNKNOWN, OUTSIDE = LevelledInk.OUTSIDE;
    private static final int STATE = LevelledInk.STATE, NONE = LevelledInk.NONE;
    private static final int SKEW = 0, SLANT = 1;
    private static final int[] NO_AXES = {-1, 2, Integer.MIN_VALUE, Integer.MAX_VALUE};
    private static final int[] NO_SHEARS = {-17, 17, Integer.MIN_VALUE, Integer.MAX_VALUE};

    public static void main(String[] args) {
        shift();
        shiftRefusals();
        profileOfSkew();
        profileOfSlant();
        profileRefusals();
        sharp();
        best();
        bestOfSeveral();
        bestOfOtherPages();
        found();
        foundIsNotBest();
        triedOrder();
        triedAtTheEdge();
        shearSkew();
        shearSlant();
        shearSlantTwice();
        shearLeaves();
        shearRefusals();
        Due.end();
    }

    private static LevelledInk pageOf(int w, int... columnsAndRows) {
        LevelledInk x = new LevelledInk();
        x.page(w);
        for (int i = 0; i + 1 < columnsAndRows.length; i += 2) {
            x.dot(columnsAndRows[i], columnsAndRows[i + 1], 1);
        }
        return x;
    }

    private static void shift() {
        for (int s = -16; s <= 16; s++) {
            LevelledInk x = new LevelledInk();
            for (int k = 0; k < 24; k++) {
                Due.due("12: shift(0, " + s + ", " + k + ")", x.shift(SKEW, s, k), (long) Math.floor(s * k / 16.0 + 0.5));
            }
            for (int r = 0; r < 32; r++) {
                long due = (long) Math.floor(s * (31 - r) / 16.0 + 0.5);
                Due.due("12: shift(1, " + s + ", " + r + ")", x.shift(SLANT, s, r), due);
            }
        }
        LevelledInk x = new LevelledInk();
        Due.due("12: a half goes to the greater one", x.shift(SKEW, 8, 1), 1);
        Due.due("12: a half below 0 goes to the greater one", x.shift(SKEW, -8, 1), 0);
        Due.due("12: a half below 0 goes to the greater one", x.shift(SKEW, -8, 5), -2);
    }

    private static void shiftRefusals() {
        LevelledInk x = new LevelledInk();
        x.page(4);
        for (int axis : NO_AXES) {
            Due.due("12: axis " + axis, x.shift(axis, 0, 0), OUTSIDE);
        }
        for (int s : NO_SHEARS) {
            Due.due("12: shear " + s, x.shift(SLANT, s, 0), OUTSIDE);
        }
        for (int k : new int[] {-1, 4, 24, Integer.MIN_VALUE, Integer.MAX_VALUE}) {
            Due.due("12: column " + k, x.shift(SKEW, 1, k), UNKNOWN);
        }
        for (int r : new int[] {-1, 32, Integer.MIN_VALUE, Integer.MAX_VALUE}) {
            Due.due("12: row " + r, x.shift(SLANT, 1, r), UNKNOWN);
        }
        Due.due("12: column 3", x.shift(SKEW, 16, 3), 3);
        Due.due("12: OUTSIDE comes first", x.shift(SKEW, 17, 4), OUTSIDE);
        Due.due("12: OUTSIDE comes first", x.shift(2, 0, -1), OUTSIDE);
    }

    private static void profileOfSkew() {
        LevelledInk x = pageOf(24, 0, 0, 1, 0, 23, 0, 23, 31, 12, 6);
        Due.due("13: no shear, row 0", x.profile(SKEW, 0, 0), 3);
        Due.due("13: no shear, row 6", x.profile(SKEW, 0, 6), 1);
        Due.due("13: no shear, row 31", x.profile(SKEW, 0, 31), 1);
        Due.due("13: no shear, row 1", x.profile(SKEW, 0, 1), 0);
        Due.due("13: above the page", x.profile(SKEW, 16, -23), 1);
        Due.due("13: shear 16, row -6", x.profile(SKEW, 16, -6), 1);
        Due.due("13: shear 16, row -1", x.profile(SKEW, 16, -1), 1);
        Due.due("13: shear 16, row 8", x.profile(SKEW, 16, 8), 1);
        Due.due("13: below the page", x.profile(SKEW, -16, 54), 1);
        Due.due("13: beyond", x.profile(SKEW, -16, 55), 0);
        Due.due("13: far away", x.profile(SKEW, -16, 99), 0);
        Due.due("13: far away", x.profile(SKEW, -16, -99), 0);
    }

    private static void profileOfSlant() {
        LevelledInk x = pageOf(24, 0, 0, 23, 0, 5, 31, 5, 30, 5, 29);
        Due.due("13: no shear, column 5", x.profile(SLANT, 0, 5), 3);
        Due.due("13: shear 16, column 5", x.profile(SLANT, 16, 5), 1);
        Due.due("13: shear 16, column 4", x.profile(SLANT, 16, 4), 1);
        Due.due("13: shear 16, column 3", x.profile(SLANT, 16, 3), 1);
        Due.due("13: left of the page", x.profile(SLANT, 16, -31), 1);
        Due.due("13: right of the page", x.profile(SLANT, -16, 54), 1);
        Due.due("13: shear -16, column 31", x.profile(SLANT, -16, 31), 1);
    }

    private static void profileRefusals() {
        LevelledInk x = new LevelledInk();
        for (int axis : NO_AXES) {
            Due.due("13: axis " + axis, x.profile(axis, 0, 0), OUTSIDE);
        }
        for (int s : NO_SHEARS) {
            Due.due("13: shear " + s, x.profile(SKEW, s, 0), OUTSIDE);
        }
        for (int i : new int[] {-100, 100, Integer.MIN_VALUE, Integer.MAX_VALUE}) {
            Due.due("13: place " + i, x.profile(SLANT, 0, i), OUTSIDE);
        }
        Due.due("13: no dots", x.profile(SKEW, 3, 0), 0);
    }

    private static void sharp() {
        Due.due("14: no dots", new LevelledInk().sharp(SKEW, 5), 0);
        Due.due("14: one dot", pageOf(3, 1, 9).sharp(SKEW, 16), 2);
        Due.due("14: at the very top", pageOf(24, 23, 0).sharp(SKEW, 16), 2);
        Due.due("14: at the very bottom", pageOf(24, 23, 31).sharp(SKEW, -16), 2);
        Due.due("14: far left", pageOf(24, 0, 0).sharp(SLANT, 16), 2);
        Due.due("14: far right", pageOf(24, 23, 0).sharp(SLANT, -16), 2);
        LevelledInk x = pageOf(5, 0, 3, 1, 3, 2, 3, 0, 4, 2, 6);
        // rows 3: 3, 4: 1, 6: 1
        Due.due("14: steps 3, -2, -1, 1, -1", x.sharp(SKEW, 0), 9 + 4 + 1 + 1 + 1);
        // columns 0: 2, 1: 1, 2: 2
        Due.due("14: steps 2, -1, 1, -2", x.sharp(SLANT, 0), 4 + 1 + 1 + 4);
        for (int axis : NO_AXES) {
            Due.due("14: axis " + axis, x.sharp(axis, 0), OUTSIDE);
        }
        for (int s : NO_SHEARS) {
            Due.due("14: shear " + s, x.sharp(SLANT, s), OUTSIDE);
        }
        LevelledInk full = new LevelledInk();
        for (int k = 0; k < 24; k++) {
            for (int r = 0; r < 16; r++) {
                full.dot(k, r, 1);
            }
        }
        Due.due("14: half a page", full.sharp(SKEW, 0), 2 * 24 * 24);
    }

    private static LevelledInk falling() {
        LevelledInk x = new LevelledInk();
        for (int k = 0; k < 24; k++) {
            x.dot(k, k, 1);
        }
        return x;
    }

    private static LevelledInk rising() {
        LevelledInk x = new LevelledInk();
        for (int k = 0; k < 24; k++) {
            x.dot(k, 31 - k, 1);
        }
        return x;
    }

    // Shifts 1 and -1 of column 3 bring two dots into one row; shears 3 and -3 are the first to do so.
    private static LevelledInk sharpOnBothSides() {
        return pageOf(4, 0, 5, 3, 4, 3, 6);
    }

    private static void best() {
        Due.due("15: no dots", new LevelledInk().best(SKEW), 100);
        Due.due("15: one dot", pageOf(24, 23, 0).best(SLANT), 100);
        Due.due("15: a line that falls", falling().best(SKEW), 116);
        Due.due("15: its sharpness", falling().sharp(SKEW, 16), 2 * 24 * 24);
        Due.due("15: a line that rises", rising().best(SKEW), 84);
        Due.due("15: it leans to the right", rising().best(SLANT), 116);
        Due.due("15: it leans to the left", falling().best(SLANT), 84);
        LevelledInk x = falling();
        for (int axis : NO_AXES) {
            Due.due("15: axis " + axis, x.best(axis), OUTSIDE);
        }
        Due.due("15: the page stays", x.column(23), 1 << 23);
        Due.due("15: no move", x.many(5), 0);
    }

    private static void bestOfSeveral() {
        // Columns 0 and 1 meet at each shear from 8 to 16: the nearest to 0 is taken.
        Due.due("15: the nearest to 0", pageOf(2, 0, 5, 1, 6).best(SKEW), 108);
        Due.due("15: the nearest to 0", pageOf(2, 0, 5, 1, 4).best(SKEW), 91);
        LevelledInk x = sharpOnBothSides();
        Due.due("15: shear 3", x.sharp(SKEW, 3), 10);
        Due.due("15: shear -3", x.sharp(SKEW, -3), 10);
        Due.due("15: the lesser one of two as near", x.best(SKEW), 97);
    }

    private static void bestOfOtherPages() {
        LevelledInk x = falling();
        Due.due("15: it falls", x.best(SKEW), 116);
        Due.due("15: the rows of the same page", x.best(SLANT), 84);
        Due.due("16: the rows of the same page", x.found(SLANT), 84);
        Due.due("15: the columns again", x.best(SKEW), 116);
        x.page(24);
        Due.due("15: a new page", x.best(SKEW), 100);
        Due.due("16: a new page", x.found(SKEW), 100);
        Due.due("14: a new page", x.sharp(SKEW, 16), 0);
    }

    private static void triedAre(String what, LevelledInk x, int axis, int... shears) {
        for (int k = 0; k < shears.length; k++) {
            Due.due("17: " + what + ", " + k, x.tried(axis, k), shears[k] + 100);
        }
        for (int k = shears.length; k <= 32; k++) {
            Due.due("17: " + what + ", " + k, x.tried(axis, k), NONE);
        }
    }

    private static void found() {
        Due.due("16: no dots", new LevelledInk().found(SLANT), 100);
        Due.due("16: a line that falls", falling().found(SKEW), 116);
        Due.due("16: a line that rises", rising().found(SKEW), 84);
        Due.due("16: sharp on both sides", sharpOnBothSides().found(SKEW), 97);
        LevelledInk x = falling();
        for (int axis : NO_AXES) {
            Due.due("16: axis " + axis, x.found(axis), OUTSIDE);
        }
        Due.due("16: no move", x.many(5), 0);
    }

    // Two dots that meet at shear -1, which the search does not come to.
    private static void foundIsNotBest() {
        LevelledInk x = pageOf(6, 2, 1, 3, 9);
        Due.due("15: the sharpest", x.best(SLANT), 99);
        Due.due("15: it meets", x.sharp(SLANT, -1), 8);
        Due.due("16: another one", x.found(SLANT), 94);
        triedAre("not come to", x, SLANT, -16, -8, 0, 8, 16, -12, -4, -10, -6, -7, -5);
    }

    private static void triedOrder() {
        triedAre("no dots", new LevelledInk(), SKEW, -16, -8, 0, 8, 16, -4, 4, -2, 2, -1, 1);
        triedAre("both sides", sharpOnBothSides(), SKEW, -16, -8, 0, 8, 16, -12, -4, -6, -2, -5, -3);
        LevelledInk x = new LevelledInk();
        for (int axis : NO_AXES) {
            Due.due("17: axis " + axis, x.tried(axis, 0), OUTSIDE);
        }
        for (int k : new int[] {-1, 33, Integer.MIN_VALUE, Integer.MAX_VALUE}) {
            Due.due("17: tried(0, " + k + ")", x.tried(SKEW, k), OUTSIDE);
        }
    }

    private static void triedAtTheEdge() {
        triedAre("beyond 16", falling(), SKEW, -16, -8, 0, 8, 16, 12, 14, 15);
        triedAre("beyond -16", rising(), SKEW, -16, -8, 0, 8, 16, -12, -14, -15);
    }

    private static void shearSkew() {
        LevelledInk x = falling();
        Due.due("18: all but the first", x.shear(SKEW, 16), 23);
        for (int k = 0; k < 24; k++) {
            Due.due("18: column " + k, x.column(k), 1);
        }
        Due.due("18: a move", x.many(5), 1);
        Due.due("18: down", x.shear(SKEW, -16), 23);
        Due.due("18: column 23", x.column(23), 1 << 23);
        Due.due("18: ink", x.many(1), 24);
        Due.due("18: no dot moves", x.shear(SKEW, 0), 0);
        Due.due("18: a move all the same", x.many(5), 3);
        LevelledInk empty = new LevelledInk();
        Due.due("18: no dots", empty.shear(SKEW, 16), 0);
        Due.due("18: a move all the same", empty.many(5), 1);
        LevelledInk pair = pageOf(2, 1, 30, 1, 31, 0, 0);
        Due.due("18: two dots of one column", pair.shear(SKEW, 8), 2);
        Due.due("18: from row 31", pair.column(1), (1 << 29) + (1 << 30));
        Due.due("18: the other column stays", pair.column(0), 1);
    }

    private static void shearSlant() {
        LevelledInk x = pageOf(24, 2, 31, 3, 30, 4, 29, 23, 0, 9, 31);
        Due.due("18: rows slide to the left", x.shear(SLANT, 11), 3);
        Due.due("18: row 31 stays", x.column(9), 1L << 31);
        Due.due("18: row 30 by 1, row 0 by 21", x.column(2), (1L << 31) + (1 << 30) + 1);
        Due.due("18: row 29 by 1", x.column(3), 1 << 29);
        Due.due("18: ink", x.many(1), 5);
        LevelledInk right = pageOf(24, 0, 8, 5, 31);
        Due.due("18: rows slide to the right", right.shear(SLANT, -16), 1);
        Due.due("18: by 23", right.column(23), 1 << 8);
        Due.due("18: row 31 stays", right.column(5), 1L << 31);
    }

    private static void shearSlantTwice() {
        LevelledInk x = pageOf(24, 20, 15, 21, 15);
        Due.due("18: by 4", x.shear(SLANT, 4), 2);
        Due.due("18: by 4 again", x.shear(SLANT, 4), 2);
        Due.due("18: no dot is left behind", x.many(1), 2);
        Due.due("18: column 12", x.column(12), 1 << 15);
        x.dot(0, 14, 1);
        Due.due("18: leaves", x.shear(SLANT, 4), STATE);
        x.dot(0, 14, 0);
        Due.due("18: after a refusal", x.shear(SLANT, -4), 2);
        Due.due("18: no dot too many", x.many(1), 2);
    }

    private static void leaves(String what, LevelledInk x, int axis, int s) {
        int ink = x.many(1);
        long first = x.column(0);
        Due.due("18: " + what, x.shear(axis, s), STATE);
        Due.due("18: " + what + ", no dot is lost", x.many(1), ink);
        Due.due("18: " + what + ", nothing changes", x.column(0), first);
        Due.due("18: " + what + ", no move", x.many(5), 0);
    }

    private static void shearLeaves() {
        leaves("above", pageOf(3, 0, 4, 1, 4, 2, 0), SKEW, 8);
        leaves("below", pageOf(3, 0, 4, 1, 4, 2, 31), SKEW, -8);
        leaves("on the left", pageOf(9, 0, 31, 0, 30), SLANT, 8);
        leaves("on the right", pageOf(9, 0, 31, 8, 29), SLANT, -8);
        leaves("right of a narrow page", pageOf(2, 0, 31, 0, 0), SLANT, -1);
        Due.due("18: up to the top", pageOf(3, 2, 1).shear(SKEW, 8), 1);
        Due.due("18: down to the bottom", pageOf(3, 2, 30).shear(SKEW, -8), 1);
        Due.due("18: to the first column", pageOf(9, 1, 30).shear(SLANT, 8), 1);
        Due.due("18: to the last column", pageOf(9, 7, 29).shear(SLANT, -8), 1);
    }

    private static void shearRefusals() {
        LevelledInk x = pageOf(3, 0, 4, 2, 0);
        for (int axis : NO_AXES) {
            Due.due("18: axis " + axis, x.shear(axis, 0), OUTSIDE);
        }
        for (int s : NO_SHEARS) {
            Due.due("18: shear " + s, x.shear(SKEW, s), OUTSIDE);
            Due.due("18: shear " + s, x.shear(SLANT, s), OUTSIDE);
        }
        Due.due("18: no moves", x.many(5), 0);
        x.put(0, 0, 0);
        x.shear(SKEW, 8);
        x.shear(2, 8);
        Due.due("18: shear names no fault", x.fault(), 1);
    }
}
