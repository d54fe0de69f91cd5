/** Promises 1 to 11: a new object, the page, the cards. */
public final class PageAndCardsTest {
    private static final int UNKNOWN = LevelledInk.UNKNOWN, OUTSIDE = LevelledInk.OUTSIDE;
    private static final int STATE = LevelledInk.STATE, NONE = LevelledInk.NONE;
    private static final long LOST = LevelledInk.LOST;
    private static final int NULL = -11, STORE = -12, INDEX = -13, SIZE = -14;
    private static final int LEAST = Integer.MIN_VALUE, GREATEST = Integer.MAX_VALUE;

    public static void main(String[] args) {
        constants();
        newObject();
        page();
        pageForgets();
        dot();
        dotForgets();
        column();
        row();
        rowRefusals();
        rowForgets();
        take();
        blank();
        blankRefusals();
        putAndGet();
        putAndGetRefusals();
        copy();
        copyRefusals();
        copyOrder();
        lose();
        Due.end();
    }

    private static void constants() {
        Due.due("UNKNOWN", UNKNOWN, -1);
        Due.due("OUTSIDE", OUTSIDE, -2);
        Due.due("STATE", STATE, -3);
        Due.due("NONE", NONE, -9);
        Due.due("LOST", LOST, Long.MIN_VALUE);
    }

    private static void newObject() {
        LevelledInk x = new LevelledInk();
        long[] counts = {24, 0, 0, 0, 0, 0, 0};
        for (int what = 0; what < counts.length; what++) {
            Due.due("1: many(" + what + ")", x.many(what), counts[what]);
        }
        for (int k = 0; k < 24; k++) {
            Due.due("1: column(" + k + ")", x.column(k), 0);
        }
        for (int card = 0; card < 4; card++) {
            Due.due("1: lose(" + card + ")", x.lose(card), 0);
        }
        Due.due("1: fault()", x.fault(), 0);
        LevelledInk y = new LevelledInk();
        y.dot(0, 0, 1);
        y.blank(0, 0, 1);
        Due.due("1: another object has no dot", x.many(1), 0);
        Due.due("1: another object has no card", x.many(6), 0);
    }

    private static void page() {
        LevelledInk x = new LevelledInk();
        x.dot(3, 4, 1);
        x.dot(23, 31, 1);
        for (int w : new int[] {0, -1, 25, LEAST, GREATEST}) {
            Due.due("2: page(" + w + ")", x.page(w), OUTSIDE);
        }
        Due.due("2: refused, nothing changes", x.many(1), 2);
        Due.due("2: refused, nothing changes", x.many(0), 24);
        Due.due("2: page(1)", x.page(1), 2);
        Due.due("2: width 1", x.many(0), 1);
        Due.due("2: no dots", x.many(1), 0);
        Due.due("2: page(24)", x.page(24), 0);
        Due.due("2: width 24", x.many(0), 24);
        Due.due("2: old dots stay away", x.column(3), 0);
        Due.due("2: old dots stay away", x.column(23), 0);
        x.blank(2, 1, 5);
        x.put(2, 4, 7);
        Due.due("2: page(5)", x.page(5), 0);
        Due.due("2: cards stay", x.get(2, 4), 7);
    }

    private static void pageForgets() {
        LevelledInk x = new LevelledInk();
        x.shear(0, 1);
        Due.due("2: page(99)", x.page(99), OUTSIDE);
        Due.due("2: refused, moves stay", x.many(5), 1);
        x.page(24);
        Due.due("2: moves are forgotten", x.many(5), 0);
        Due.due("2: back()", x.back(), STATE);
    }

    private static void dot() {
        LevelledInk x = new LevelledInk();
        x.page(6);
        Due.due("3: first", x.dot(5, 31, 1), 0);
        Due.due("3: again", x.dot(5, 31, 1), 1);
        Due.due("3: ink", x.many(1), 1);
        Due.due("3: away", x.dot(5, 31, 0), 1);
        Due.due("3: away again", x.dot(5, 31, 0), 0);
        Due.due("3: ink", x.many(1), 0);
        x.dot(0, 0, 1);
        Due.due("3: corner", x.column(0), 1);
        for (int k : new int[] {-1, 6, 24, LEAST, GREATEST}) {
            Due.due("3: dot(" + k + ", 0, 1)", x.dot(k, 0, 1), UNKNOWN);
        }
        for (int r : new int[] {-1, 32, 33, LEAST, GREATEST}) {
            Due.due("3: dot(0, " + r + ", 1)", x.dot(0, r, 1), UNKNOWN);
        }
        for (int v : new int[] {-1, 2, LEAST, GREATEST}) {
            Due.due("3: dot(0, 0, " + v + ")", x.dot(0, 0, v), OUTSIDE);
        }
        Due.due("3: UNKNOWN comes first", x.dot(6, 0, 2), UNKNOWN);
        Due.due("3: UNKNOWN comes first", x.dot(0, 32, 2), UNKNOWN);
        Due.due("3: refused, nothing changes", x.many(1), 1);
    }

    private static void dotForgets() {
        LevelledInk x = new LevelledInk();
        x.shear(0, 0);
        x.dot(24, 0, 1);
        x.dot(0, 0, 2);
        Due.due("3: refused, moves stay", x.many(5), 1);
        x.dot(0, 0, 0);
        Due.due("3: moves are forgotten, though nothing changed", x.many(5), 0);
    }

    private static void column() {
        LevelledInk x = new LevelledInk();
        x.page(3);
        x.dot(2, 31, 1);
        Due.due("4: bit 31 is not a sign", x.column(2), 2147483648L);
        x.dot(2, 0, 1);
        x.dot(2, 9, 1);
        Due.due("4: three", x.column(2), 2147483648L + 1 + 512);
        Due.due("4: none", x.column(1), 0);
        for (int r = 0; r < 32; r++) {
            x.dot(1, r, 1);
        }
        Due.due("4: all", x.column(1), 4294967295L);
        for (int k : new int[] {-1, 3, 24, LEAST, GREATEST}) {
            Due.due("4: column(" + k + ")", x.column(k), LOST);
        }
    }

    private static void row() {
        LevelledInk x = new LevelledInk();
        x.page(5);
        x.blank(0, 0, 3);
        x.put(0, 0, -4);
        x.put(0, 2, 256);
        for (int k = 0; k < 5; k++) {
            x.dot(k, 7, 1);
        }
        Due.due("5: row of a card", x.row(7, 0), 1);
        Due.due("5: not 0 is a dot", x.column(0), 128);
        Due.due("5: cut to 0 is none", x.column(2), 0);
        Due.due("5: no such place is none", x.column(4), 0);
        x.blank(1, 2, 32);
        for (int i = 0; i < 32; i++) {
            x.put(1, i, i + 1);
        }
        Due.due("5: a card wider than the page", x.row(31, 1), 5);
        Due.due("5: ink", x.many(1), 6);
        Due.due("5: another row stays", x.column(0), 128 + 2147483648L);
        x.blank(2, 3, 0);
        Due.due("5: a card of no places", x.row(31, 2), 0);
        Due.due("5: ink", x.many(1), 1);
        Due.due("5: the card stays", x.get(1, 31), 32);
    }

    private static void rowRefusals() {
        LevelledInk x = new LevelledInk();
        x.dot(0, 7, 1);
        x.blank(3, 0, 1);
        for (int r : new int[] {-1, 32, LEAST, GREATEST}) {
            Due.due("5: row(" + r + ", 3)", x.row(r, 3), UNKNOWN);
        }
        for (int card : new int[] {-1, 4, LEAST, GREATEST}) {
            Due.due("5: row(0, " + card + ")", x.row(0, card), UNKNOWN);
        }
        Due.due("5: nothing", x.row(7, 0), NULL);
        Due.due("5: fault()", x.fault(), 1);
        Due.due("5: UNKNOWN comes first", x.row(32, 0), UNKNOWN);
        Due.due("5: fault()", x.fault(), 0);
        Due.due("5: the dot stays", x.column(0), 128);
        x.row(7, 0);
        Due.due("5: done", x.row(7, 3), 0);
        Due.due("5: fault() of a row that is done", x.fault(), 0);
    }

    private static void rowForgets() {
        LevelledInk x = new LevelledInk();
        x.blank(0, 0, 4);
        x.shear(1, 0);
        x.row(0, 4);
        x.row(32, 0);
        Due.due("5: refused, moves stay", x.many(5), 1);
        x.row(0, 1);
        Due.due("5: by a fault nothing changes", x.many(5), 1);
        x.row(0, 0);
        Due.due("5: moves are forgotten", x.many(5), 0);
    }

    private static void take() {
        LevelledInk x = new LevelledInk();
        x.page(7);
        x.dot(0, 31, 1);
        x.dot(6, 31, 1);
        x.dot(3, 30, 1);
        x.blank(1, 0, 32);
        x.put(1, 1, 5);
        Due.due("6: how many", x.take(1, 31), 2);
        for (int k = 0; k < 7; k++) {
            Due.due("6: place " + k, x.get(1, k), k == 0 || k == 6 ? 1 : 0);
        }
        Due.due("6: no place beyond", x.get(1, 7), LOST);
        x.put(1, 2, 256);
        Due.due("6: flags", x.get(1, 2), 1);
        Due.due("6: the page stays", x.many(1), 3);
        x.put(0, 0, 0);
        x.take(2, 0);
        Due.due("6: take names no fault", x.fault(), 1);
        Due.due("6: a row without dots", x.take(0, 5), 0);
        Due.due("6: has something", x.many(6), 3);
        for (int bad : new int[] {-1, 4, LEAST, GREATEST}) {
            Due.due("6: take(" + bad + ", 0)", x.take(bad, 0), UNKNOWN);
        }
        for (int bad : new int[] {-1, 32, LEAST, GREATEST}) {
            Due.due("6: take(3, " + bad + ")", x.take(3, bad), UNKNOWN);
        }
        Due.due("6: refused, nothing changes", x.lose(3), 0);
        x.shear(0, 0);
        x.take(0, 0);
        Due.due("6: moves stay", x.many(5), 1);
    }

    private static void blank() {
        LevelledInk x = new LevelledInk();
        Due.due("7: none", x.blank(0, 0, 0), 1);
        Due.due("7: no place", x.get(0, 0), LOST);
        Due.due("7: INDEX, not NULL", x.fault(), 3);
        Due.due("7: it has something", x.many(6), 1);
        for (int sort = 0; sort < 4; sort++) {
            Due.due("7: 32 of sort " + sort, x.blank(sort, sort, 32), 1);
            Due.due("7: 0 at first", x.get(sort, 0), 0);
            Due.due("7: 0 at last", x.get(sort, 31), 0);
            Due.due("7: no more", x.get(sort, 32), LOST);
        }
        x.put(2, 5, 9);
        x.blank(2, 2, 6);
        Due.due("7: new places", x.get(2, 5), 0);
        x.blank(2, 2, 3);
        Due.due("7: fewer places", x.get(2, 3), LOST);
        x.shear(0, 0);
        x.blank(2, 2, 3);
        Due.due("7: moves stay", x.many(5), 1);
    }

    private static void blankRefusals() {
        LevelledInk x = new LevelledInk();
        for (int card : new int[] {-1, 4, LEAST, GREATEST}) {
            Due.due("7: blank(" + card + ", 0, 1)", x.blank(card, 0, 1), UNKNOWN);
        }
        for (int sort : new int[] {-1, 4, LEAST, GREATEST}) {
            Due.due("7: blank(0, " + sort + ", 1)", x.blank(0, sort, 1), OUTSIDE);
        }
        Due.due("7: 33 places", x.blank(0, 0, 33), OUTSIDE);
        Due.due("7: very many places", x.blank(0, 0, GREATEST), OUTSIDE);
        Due.due("7: fault()", x.fault(), 0);
        Due.due("7: -1 places", x.blank(0, 0, -1), SIZE);
        Due.due("7: fault()", x.fault(), 4);
        Due.due("7: very few places", x.blank(0, 0, LEAST), SIZE);
        Due.due("7: nothing changes", x.many(6), 0);
        Due.due("7: UNKNOWN comes first", x.blank(4, 4, -1), UNKNOWN);
        Due.due("7: fault() of a refusal", x.fault(), 0);
        x.blank(0, 0, -1);
        Due.due("7: OUTSIDE comes before SIZE", x.blank(0, 4, -1), OUTSIDE);
        Due.due("7: fault() of a refusal", x.fault(), 0);
        x.blank(0, 0, -1);
        x.blank(0, 0, 1);
        Due.due("7: fault() of one that is done", x.fault(), 0);
        x.put(0, 0, 5);
        x.blank(0, 1, -1);
        x.blank(0, 1, 33);
        Due.due("7: the old row stays", x.get(0, 0), 5);
    }

    private static void putAndGet() {
        int[] values = {0, 1, -1, 127, 128, 255, 256, -128, -129, 32767, 32768, 65535, 65536, 98304, LEAST, GREATEST};
        LevelledInk x = new LevelledInk();
        for (int sort = 0; sort < 4; sort++) {
            x.blank(sort, sort, values.length);
        }
        for (int i = 0; i < values.length; i++) {
            int v = values[i];
            for (int sort = 0; sort < 4; sort++) {
                Due.due("8: put " + v, x.put(sort, i, v), 1);
            }
            Due.due("9: byte " + v, x.get(0, i), (byte) v);
            Due.due("9: char " + v, x.get(1, i), (char) v);
            Due.due("9: short " + v, x.get(2, i), (short) v);
            Due.due("9: flag " + v, x.get(3, i), v == 0 ? 0 : 1);
        }
        Due.due("8: the first place stays", x.get(1, 2), 65535);
        Due.due("8: fault()", x.fault(), 0);
        x.shear(0, 0);
        x.put(0, 0, 0);
        Due.due("8: moves stay", x.many(5), 1);
    }

    private static void putAndGetRefusals() {
        LevelledInk x = new LevelledInk();
        x.blank(1, 0, 3);
        for (int card : new int[] {-1, 4, LEAST, GREATEST}) {
            x.put(0, 0, 0);
            Due.due("8: put(" + card + ", 0, 1)", x.put(card, 0, 1), UNKNOWN);
            Due.due("8: fault()", x.fault(), 0);
            x.put(0, 0, 0);
            Due.due("9: get(" + card + ", 0)", x.get(card, 0), LOST);
            Due.due("9: fault()", x.fault(), 0);
        }
        for (int i : new int[] {-1, 3, 31, 32, LEAST, GREATEST}) {
            x.blank(0, 0, -1);
            Due.due("8: put(1, " + i + ", 1)", x.put(1, i, 1), INDEX);
            Due.due("8: fault()", x.fault(), 3);
            x.blank(0, 0, -1);
            Due.due("9: get(1, " + i + ")", x.get(1, i), LOST);
            Due.due("9: fault()", x.fault(), 3);
        }
        Due.due("8: NULL before INDEX", x.put(0, -1, 1), NULL);
        Due.due("8: fault()", x.fault(), 1);
        x.put(1, 3, 0);
        Due.due("9: NULL before INDEX", x.get(0, -1), LOST);
        Due.due("9: fault()", x.fault(), 1);
        Due.due("9: done", x.get(1, 2), 0);
        Due.due("9: fault() of one that is done", x.fault(), 0);
        x.put(1, 3, 0);
        x.put(1, 2, 4);
        Due.due("8: fault() of one that is done", x.fault(), 0);
    }

    private static LevelledInk twoCards() {
        LevelledInk x = new LevelledInk();
        x.blank(0, 2, 6);
        x.blank(1, 2, 4);
        for (int i = 0; i < 6; i++) {
            x.put(0, i, 10 + i);
        }
        for (int i = 0; i < 4; i++) {
            x.put(1, i, 20 + i);
        }
        return x;
    }

    private static void cardIs(String what, LevelledInk x, int card, int... numbers) {
        for (int i = 0; i < numbers.length; i++) {
            Due.due(what + ", place " + i, x.get(card, i), numbers[i]);
        }
        Due.due(what + ", no more", x.get(card, numbers.length), LOST);
    }

    private static void copy() {
        LevelledInk x = twoCards();
        Due.due("10: 2 numbers", x.copy(0, 3, 1, 1, 2), 2);
        Due.due("10: fault()", x.fault(), 0);
        cardIs("10: to", x, 1, 20, 13, 14, 23);
        cardIs("10: from", x, 0, 10, 11, 12, 13, 14, 15);
        Due.due("10: to the right", x.copy(0, 0, 0, 2, 4), 4);
        cardIs("10: as they were", x, 0, 10, 11, 10, 11, 12, 13);
        Due.due("10: to the left", x.copy(0, 2, 0, 1, 4), 4);
        cardIs("10: as they were", x, 0, 10, 10, 11, 12, 13, 13);
        Due.due("10: all", x.copy(1, 0, 0, 2, 4), 4);
        cardIs("10: to the end", x, 0, 10, 10, 20, 13, 14, 23);
        Due.due("10: none", x.copy(1, 4, 0, 6, 0), 0);
        Due.due("10: none of none", x.blank(2, 2, 0), 1);
        Due.due("10: none of none", x.copy(2, 0, 2, 0, 0), 0);
        x.shear(0, 0);
        x.copy(0, 0, 1, 0, 1);
        Due.due("10: moves stay", x.many(5), 1);
    }

    private static void copyRefusals() {
        LevelledInk x = twoCards();
        for (int bad : new int[] {-1, 4, LEAST, GREATEST}) {
            x.blank(0, 0, -1);
            Due.due("10: from " + bad, x.copy(bad, 0, 1, 0, 1), UNKNOWN);
            Due.due("10: fault()", x.fault(), 0);
            x.blank(0, 0, -1);
            Due.due("10: to " + bad, x.copy(0, 0, bad, 0, 1), UNKNOWN);
            Due.due("10: fault()", x.fault(), 0);
        }
        int[][] beyond = {
            {-1, 0, 1}, {0, -1, 1}, {0, 0, -1}, {6, 0, 1}, {0, 4, 1}, {3, 0, 4}, {0, 1, 4}, {0, 0, 5}, {0, 0, 7},
            {7, 0, 0}, {0, 5, 0}, {-1, 0, 0}, {0, -1, 0}, {GREATEST, 0, 1}, {0, GREATEST, 1}, {0, 0, GREATEST},
            {1, 1, GREATEST}, {GREATEST, GREATEST, GREATEST}, {LEAST, LEAST, LEAST}, {0, 0, LEAST}, {1, 1, LEAST},
            {6, 4, -1}, {GREATEST, 0, LEAST}, {0, 0, 32},
        };
        for (int[] b : beyond) {
            x.blank(0, 0, -1);
            String call = "10: copy(0, " + b[0] + ", 1, " + b[1] + ", " + b[2] + ")";
            Due.due(call, x.copy(0, b[0], 1, b[1], b[2]), INDEX);
            Due.due("10: fault()", x.fault(), 3);
        }
        cardIs("10: from stays", x, 0, 10, 11, 12, 13, 14, 15);
        cardIs("10: to stays", x, 1, 20, 21, 22, 23);
    }

    private static void copyOrder() {
        LevelledInk x = twoCards();
        x.blank(2, 1, 4);
        Due.due("10: UNKNOWN before NULL", x.copy(3, 0, 4, 0, -1), UNKNOWN);
        Due.due("10: UNKNOWN before NULL", x.copy(4, 0, 3, 0, -1), UNKNOWN);
        Due.due("10: the first has nothing", x.copy(3, -1, 2, 0, 1), NULL);
        Due.due("10: the other has nothing", x.copy(0, -1, 3, 0, 1), NULL);
        Due.due("10: both have nothing", x.copy(3, 0, 3, 0, 0), NULL);
        Due.due("10: fault()", x.fault(), 1);
        Due.due("10: STORE before INDEX", x.copy(0, -1, 2, 9, -5), STORE);
        Due.due("10: STORE of none", x.copy(0, 0, 2, 0, 0), STORE);
        Due.due("10: fault()", x.fault(), 2);
        for (int one = 0; one < 4; one++) {
            for (int other = 0; other < 4; other++) {
                x.blank(0, one, 1);
                x.blank(1, other, 1);
                Due.due("10: sorts " + one + ", " + other, x.copy(0, 0, 1, 0, 1), one == other ? 1 : STORE);
            }
        }
        x.copy(0, 0, 2, 0, 1);
        x.copy(0, 0, 0, 0, 1);
        Due.due("10: fault() of one that is done", x.fault(), 0);
    }

    private static void lose() {
        LevelledInk x = new LevelledInk();
        Due.due("11: nothing", x.lose(3), 0);
        x.blank(3, 0, 0);
        Due.due("11: a row of no places is something", x.lose(3), 1);
        Due.due("11: gone", x.many(6), 0);
        Due.due("11: again", x.lose(3), 0);
        Due.due("11: put", x.put(3, 0, 0), NULL);
        for (int card : new int[] {-1, 4, LEAST, GREATEST}) {
            Due.due("11: lose(" + card + ")", x.lose(card), UNKNOWN);
        }
        Due.due("11: lose names no fault", x.fault(), 1);
        x.blank(0, 1, 2);
        x.put(0, 1, 8);
        x.lose(0);
        x.blank(0, 1, 2);
        Due.due("11: new places have 0", x.get(0, 1), 0);
    }
}
