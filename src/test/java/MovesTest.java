/** Promises 28 to 30: moves taken back, faults, counts. */
public final class MovesTest {
    private static final int OUTSIDE = LevelledInk.OUTSIDE, STATE = LevelledInk.STATE;

    public static void main(String[] args) {
        noMoves();
        lastMoveFirst();
        moreThanEight();
        againAfterBack();
        refusedMovesAreNone();
        narrowPage();
        forgotten();
        faultOfEachCall();
        faultOfOtherCalls();
        many();
        manyRefusals();
        Due.end();
    }

    private static void noMoves() {
        LevelledInk x = new LevelledInk();
        Due.due("28: none", x.back(), STATE);
        x.dot(0, 0, 1);
        Due.due("28: a dot is no move", x.back(), STATE);
        Due.due("28: nothing changes", x.many(1), 1);
    }

    private static void lastMoveFirst() {
        LevelledInk x = new LevelledInk();
        x.dot(10, 20, 1);
        x.dot(11, 21, 1);
        Due.due("18: rows by 3", x.shear(1, 4), 2);
        Due.due("27: one column by 1", x.level(), 1);
        Due.due("18: columns by 7, 8", x.shear(0, 16), 2);
        Due.due("28: three", x.many(5), 3);
        columnsAre("the third", x, 7, 1 << 14, 1 << 13);
        Due.due("28: two still", x.back(), 2);
        columnsAre("as ahead of the third", x, 7, 1 << 21, 1 << 21);
        Due.due("28: one still", x.back(), 1);
        columnsAre("as ahead of the second", x, 7, 1 << 20, 1 << 21);
        Due.due("28: none still", x.back(), 0);
        columnsAre("as ahead of the first", x, 10, 1 << 20, 1 << 21);
        Due.due("28: no more", x.back(), STATE);
        columnsAre("nothing changes", x, 10, 1 << 20, 1 << 21);
    }

    /** Two columns from 'first' on have these dots, all others none. */
    private static void columnsAre(String what, LevelledInk x, int first, long one, long other) {
        for (int k = 0; k < x.many(0); k++) {
            long due = k == first ? one : k == first + 1 ? other : 0;
            Due.due("28: " + what + ", column " + k, x.column(k), due);
        }
    }

    private static void moreThanEight() {
        LevelledInk x = new LevelledInk();
        x.dot(1, 31, 1);
        for (int move = 1; move <= 19; move++) {
            Due.due("18: move " + move, x.shear(0, 16), 1);
            Due.due("30: at most 8", x.many(5), Math.min(move, 8));
        }
        for (int still = 7; still >= 0; still--) {
            Due.due("28: back", x.back(), still);
            Due.due("28: the page ahead of it", x.column(1), 1L << (12 + 8 - still));
        }
        Due.due("28: the ninth is gone", x.back(), STATE);
        Due.due("28: nothing changes", x.column(1), 1 << 20);
    }

    private static void againAfterBack() {
        LevelledInk x = new LevelledInk();
        x.dot(2, 20, 1);
        x.shear(0, 8);
        x.shear(0, 16);
        x.back();
        x.shear(0, -16);
        Due.due("28: two", x.many(5), 2);
        Due.due("28: down by 2", x.column(2), 1 << 21);
        Due.due("28: the new move", x.back(), 1);
        Due.due("28: up by 1", x.column(2), 1 << 19);
        Due.due("28: the first move", x.back(), 0);
        Due.due("28: at first", x.column(2), 1 << 20);
    }

    private static void refusedMovesAreNone() {
        LevelledInk x = new LevelledInk();
        x.dot(2, 0, 1);
        x.shear(0, -8);
        Due.due("18: leaves", x.shear(0, 16), STATE);
        x.shear(0, 17);
        Due.due("28: one alone", x.many(5), 1);
        Due.due("28: it", x.back(), 0);
        Due.due("28: at first", x.column(2), 1);
    }

    private static void narrowPage() {
        LevelledInk x = new LevelledInk();
        x.dot(20, 5, 1);
        x.shear(0, 1);
        x.page(2);
        x.dot(1, 5, 1);
        x.shear(0, 8);
        Due.due("28: the narrow page", x.back(), 0);
        x.page(24);
        Due.due("28: nothing of old pages", x.many(1), 0);
        Due.due("28: nothing of old pages", x.column(20), 0);
    }

    private static void forgotten() {
        LevelledInk x = new LevelledInk();
        x.shear(0, 1);
        x.dot(1, 5, 1);
        x.shear(0, 16);
        Due.due("28: the first is forgotten", x.back(), 0);
        Due.due("28: the dot stays", x.column(1), 1 << 5);
        Due.due("28: no more", x.back(), STATE);
    }

    private static void faultOfEachCall() {
        LevelledInk x = new LevelledInk();
        Due.due("29: ahead of any", x.fault(), 0);
        x.row(0, 0);
        Due.due("29: NULL of row", x.fault(), 1);
        Due.due("29: it stays", x.fault(), 1);
        x.blank(0, 0, -1);
        Due.due("29: SIZE of blank", x.fault(), 4);
        x.blank(0, 0, 2);
        Due.due("29: none of blank", x.fault(), 0);
        x.put(1, 0, 0);
        Due.due("29: NULL of put", x.fault(), 1);
        x.put(0, 2, 0);
        Due.due("29: INDEX of put", x.fault(), 3);
        x.get(1, 0);
        Due.due("29: NULL of get", x.fault(), 1);
        x.get(0, -1);
        Due.due("29: INDEX of get", x.fault(), 3);
        x.copy(0, 0, 1, 0, 0);
        Due.due("29: NULL of copy", x.fault(), 1);
        x.blank(1, 1, 2);
        x.copy(0, 0, 1, 0, 0);
        Due.due("29: STORE of copy", x.fault(), 2);
        x.copy(0, 0, 0, 0, 3);
        Due.due("29: INDEX of copy", x.fault(), 3);
        x.copy(0, 0, 4, 0, 3);
        Due.due("29: none of a refusal", x.fault(), 0);
    }

    private static void faultOfOtherCalls() {
        LevelledInk x = new LevelledInk();
        x.blank(0, 0, -1);
        x.page(12);
        x.page(0);
        x.dot(0, 0, 1);
        x.dot(-1, 0, 1);
        x.column(0);
        x.column(-1);
        x.take(1, 0);
        x.take(4, 0);
        x.lose(1);
        x.lose(4);
        x.shift(0, 0, 0);
        x.shift(2, 0, 0);
        x.profile(0, 0, 0);
        x.profile(0, 0, 100);
        x.sharp(0, 0);
        x.sharp(0, 17);
        x.best(0);
        x.best(2);
        x.found(0);
        x.found(2);
        x.tried(0, 0);
        x.tried(0, 33);
        x.shear(0, 0);
        x.shear(1, 16);
        x.run(0, 0);
        x.run(9, 0);
        x.stroke(0, 0);
        x.stroke(9, 0);
        x.baseline(0);
        x.baseline(3);
        x.foot(0);
        x.foot(12);
        x.curl(0);
        x.curl(12);
        x.mean();
        x.rest();
        x.slope();
        x.level();
        x.back();
        x.back();
        x.back();
        x.many(0);
        x.many(7);
        Due.due("29: calls that name none leave it", x.fault(), 4);
    }

    private static void many() {
        LevelledInk x = new LevelledInk();
        x.page(9);
        int[][] dots = {{0, 3}, {1, 3}, {1, 4}, {4, 4}, {8, 31}, {8, 30}};
        for (int[] dot : dots) {
            x.dot(dot[0], dot[1], 1);
        }
        x.blank(0, 0, 0);
        x.take(3, 3);
        x.shear(0, 0);
        x.shear(0, 1);
        // runs: row 3: 0-1; row 4: 1, 4; row 30: 8; row 31: 8
        int[] due = {9, 6, 5, 3, 4, 2, 2};
        for (int what = 0; what < due.length; what++) {
            Due.due("30: many(" + what + ")", x.many(what), due[what]);
        }
    }

    private static void manyRefusals() {
        LevelledInk x = new LevelledInk();
        for (int what : new int[] {-1, 7, Integer.MIN_VALUE, Integer.MAX_VALUE}) {
            Due.due("30: many(" + what + ")", x.many(what), OUTSIDE);
        }
    }
}
