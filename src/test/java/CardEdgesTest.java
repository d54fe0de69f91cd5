/** The boundary cases of promises 5 to 11: row, take, blank, put, get, copy, lose. */
public final class CardEdgesTest {
    private static final int UNKNOWN = LevelledInk.UNKNOWN, OUTSIDE = LevelledInk.OUTSIDE;
    private static final int STATE = LevelledInk.STATE;
    private static final long LOST = LevelledInk.LOST;
    private static final int NULL = -11, STORE = -12, INDEX = -13, SIZE = -14;
    private static final int STAYS = Twins.STAYS;
    private static final long BOTTOM = 2147483648L;
    private static final String[] NO_CARDS = {"-1", "4", "LEAST", "GREATEST"};
    private static final String[] NO_ROWS = {"-1", "32", "LEAST", "GREATEST"};

    public static void main(String[] args) {
        rowFirstAndLast();
        rowOfEachCard();
        rowOfNoPlaces();
        rowOfThirtyTwoPlaces();
        rowOfCardsAboutAsWide();
        rowOfEachSort();
        rowOfCutNumbers();
        rowForgetsMoves();
        rowRefused();
        takeFirstAndLast();
        takeOfEachWidth();
        takeOfNoDots();
        takeIntoEachCard();
        takeMakesFlags();
        takeIsNewRow();
        takeRefused();
        blankOfEachLength();
        blankHasZeros();
        blankRefused();
        blankRefusedInOrder();
        putCutsBytes();
        putCutsChars();
        putCutsShorts();
        putCutsFlags();
        putAtEdges();
        putRefused();
        getRefused();
        copyOfAll();
        copyOfNone();
        copyWithinOneCard();
        copyUpToTheEnd();
        copyOfEachSort();
        copyRefused();
        copyRefusedInOrder();
        copyWrapsNotAround();
        loseEachCard();
        loseRefused();
        Due.end();
    }

    private static void rowFirstAndLast() {
        new Asked("5: row 0, row 31").after("page(2)", "blank(0, 0, 2)", "put(0, 1, 1)").due("row(0, 0)", 1)
            .columns(0, 1).due("row(31, 0)", 1).columns(0, BOTTOM + 1).due("row(30, 0)", 1)
            .columns(0, BOTTOM + (1 << 30) + 1);
    }

    private static void rowOfEachCard() {
        for (int card = 0; card < 4; card++) {
            new Asked("5: CARD " + card).after("blank(" + card + ", 3, 24)", "put(" + card + ", 23, 1)")
                .due("row(5, " + card + ")", 1).due("column(23)", 32).due("many(1)", 1).due("fault()", 0);
        }
    }

    private static void rowOfNoPlaces() {
        for (int sort = 0; sort < 4; sort++) {
            new Asked("5: a CARD of 0 places, SORT " + sort).full().after("blank(2, " + sort + ", 0)")
                .due("row(31, 2)", 0).due("fault()", 0).due("many(1)", 744).due("column(0)", BOTTOM - 1)
                .due("column(23)", BOTTOM - 1).due("row(31, 2)", 0).due("many(1)", 744);
        }
    }

    private static void rowOfThirtyTwoPlaces() {
        Asked card = new Asked("5: a CARD of 32 places").after("blank(1, 1, 32)");
        for (int i = 0; i < 32; i++) {
            card.after("put(1, " + i + ", 1)");
        }
        card.due("row(0, 1)", 24).due("many(1)", 24).due("column(0)", 1).due("column(23)", 1);
        card.after("page(1)").due("row(31, 1)", 1).columns(BOTTOM);
        card.after("page(2)", "put(1, 1, 0)").due("row(31, 1)", 1).columns(BOTTOM, 0);
    }

    private static void rowOfCardsAboutAsWide() {
        for (int n = 4; n <= 6; n++) {
            Asked x = new Asked("5: no such place, none: " + n + " places, 5 columns").after("page(5)").full();
            x.after("blank(0, 0, " + n + ")");
            for (int i = 0; i < n; i++) {
                x.after("put(0, " + i + ", 7)");
            }
            x.due("row(9, 0)", Math.min(n, 5)).due("column(3)", 4294967295L);
            x.due("column(4)", n == 4 ? 4294967295L - 512 : 4294967295L);
        }
    }

    private static void rowOfEachSort() {
        String[] least = {"-128", "1", "-32768", "1"};
        String[] greatest = {"127", "65535", "32767", "1"};
        for (int sort = 0; sort < 4; sort++) {
            new Asked("5: not 0, SORT " + sort).after("page(3)", "blank(0, " + sort + ", 3)")
                .after("put(0, 0, " + least[sort] + ")", "put(0, 2, " + greatest[sort] + ")")
                .due("row(4, 0)", 2).columns(16, 0, 16);
        }
    }

    private static void rowOfCutNumbers() {
        int[] dots = {0, 0, 0, 2};
        for (int sort = 0; sort < 4; sort++) {
            new Asked("5: cut to 0, SORT " + sort).after("page(2)", "dot(0, 4, 1)", "blank(0, " + sort + ", 2)")
                .after("put(0, 0, 65536)", "put(0, 1, LEAST)").due("row(4, 0)", dots[sort]);
        }
        new Asked("5: 256 is cut to 0 as a BYTE").after("blank(0, 0, 1)", "put(0, 0, 256)").due("row(0, 0)", 0);
        new Asked("5: 256 is no 0 as a CHAR").after("blank(0, 1, 1)", "put(0, 0, 256)").due("row(0, 0)", 1);
        new Asked("5: 256 is no 0 as a SHORT").after("blank(0, 2, 1)", "put(0, 0, 256)").due("row(0, 0)", 1);
        new Asked("5: 256 is no 0 as a FLAG").after("blank(0, 3, 1)", "put(0, 0, 256)").due("row(0, 0)", 1);
    }

    private static void rowForgetsMoves() {
        new Asked("5: MOVES are forgotten, though no DOT changes").after("blank(0, 0, 0)", "shear(0, 1)")
            .due("row(0, 0)", 0).due("many(5)", 0).due("back()", STATE);
        new Asked("5: MOVES stay by NULL").after("dot(1, 5, 1)", "shear(0, 8)").due("row(0, 0)", NULL)
            .due("many(5)", 1).due("back()", 0).due("column(1)", 32);
    }

    private static void rowRefused() {
        new Twins("5: no such row", Pasts.BUSY).refusedFor("row(?, 0)", UNKNOWN, 0, NO_ROWS);
        new Twins("5: no such CARD", Pasts.BUSY).refusedFor("row(29, ?)", UNKNOWN, 0, NO_CARDS);
        new Twins("5: a CARD that has nothing", Pasts.BUSY).refused("row(29, 3)", NULL, 1);
        new Twins("5: a new object").refused("row(0, 0)", NULL, 1).refused("row(31, 3)", NULL, 1);
        new Twins("5: UNKNOWN ahead of NULL", Pasts.BUSY).refused("row(32, 3)", UNKNOWN, 0)
            .refused("row(-1, 3)", UNKNOWN, 0).refused("row(32, 4)", UNKNOWN, 0);
        new Twins("5: a full PAGE", Pasts.FULL).refused("row(0, 3)", NULL, 1).refused("row(32, 0)", UNKNOWN, 0);
    }

    private static void takeFirstAndLast() {
        new Asked("6: row 0, row 31").after("page(2)", "dot(0, 0, 1)", "dot(1, 31, 1)").due("take(0, 0)", 1)
            .numbers(0, 1, 0).due("take(0, 31)", 1).numbers(0, 0, 1).due("take(0, 1)", 0).numbers(0, 0, 0)
            .due("take(0, 30)", 0).numbers(0, 0, 0);
    }

    private static void takeOfEachWidth() {
        for (int w = 1; w <= 24; w++) {
            Asked x = new Asked("6: W places, " + w).after("page(" + w + ")").full().due("take(0, 31)", w);
            long[] ones = new long[w];
            java.util.Arrays.fill(ones, 1);
            x.numbers(0, ones);
        }
    }

    private static void takeOfNoDots() {
        new Asked("6: a PAGE without DOTS").after("page(3)").due("take(2, 0)", 0).numbers(2, 0, 0, 0)
            .due("many(6)", 1);
    }

    private static void takeIntoEachCard() {
        for (int card = 0; card < 4; card++) {
            new Asked("6: CARD " + card).after("page(1)", "dot(0, 7, 1)").due("take(" + card + ", 7)", 1)
                .due("many(6)", 1).numbers(card, 1);
        }
    }

    private static void takeMakesFlags() {
        new Asked("6: of FLAGS").after("page(2)", "blank(0, 0, 32)", "put(0, 1, 5)", "put(0, 31, 5)", "take(0, 0)")
            .numbers(0, 0, 0).due("put(0, 1, 256)", 1).numbers(0, 0, 1).after("blank(1, 3, 2)", "blank(2, 0, 2)")
            .due("copy(0, 0, 1, 0, 2)", 2).numbers(1, 0, 1).due("copy(0, 0, 2, 0, 2)", STORE);
    }

    private static void takeIsNewRow() {
        new Asked("6: a new row, which stays as it is").after("page(2)", "dot(1, 3, 1)", "take(0, 3)", "dot(1, 3, 0)")
            .numbers(0, 0, 1).after("page(1)").numbers(0, 0, 1);
        new Asked("6: the PAGE, MOVES and fault() stay").after("page(2)", "dot(1, 3, 1)", "shear(0, 8)", "put(0, 0, 0)")
            .due("take(0, 2)", 1).due("fault()", 1).due("many(5)", 1).columns(0, 4).due("put(0, 0, 0)", 1)
            .columns(0, 4);
    }

    private static void takeRefused() {
        new Twins("6: no such CARD", Pasts.BUSY).refusedFor("take(?, 29)", UNKNOWN, STAYS, NO_CARDS);
        new Twins("6: no such row", Pasts.BUSY).refusedFor("take(0, ?)", UNKNOWN, STAYS, NO_ROWS);
        new Twins("6: no such row, a CARD that has nothing", Pasts.BUSY).refused("take(3, 32)", UNKNOWN, STAYS);
        new Twins("6: neither", Pasts.FULL).refused("take(4, 32)", UNKNOWN, STAYS).refused("take(-1, -1)", UNKNOWN, STAYS);
    }

    private static void blankOfEachLength() {
        for (int sort = 0; sort < 4; sort++) {
            Asked x = new Asked("7: 0 to 32 places, SORT " + sort);
            for (int n = 0; n <= 32; n++) {
                x.due("blank(3, " + sort + ", " + n + ")", 1).due("fault()", 0).due("get(3, " + n + ")", LOST);
                x.due("fault()", 3).due("get(3, " + (n - 1) + ")", n == 0 ? LOST : 0).due("fault()", n == 0 ? 3 : 0);
            }
            x.due("many(6)", 1);
        }
    }

    private static void blankHasZeros() {
        for (int sort = 0; sort < 4; sort++) {
            String blank = "blank(1, " + sort + ", ";
            new Asked("7: new places have 0, SORT " + sort).after(blank + "3)", "put(1, 0, 1)", "put(1, 2, 1)")
                .numbers(1, 1, 0, 1).after(blank + "3)").numbers(1, 0, 0, 0).after("put(1, 2, 1)", blank + "2)")
                .numbers(1, 0, 0).after(blank + "4)").numbers(1, 0, 0, 0, 0);
        }
        new Asked("7: another SORT").after("blank(1, 1, 2)", "put(1, 0, -1)", "blank(1, 0, 2)").numbers(1, 0, 0)
            .after("put(1, 0, 255)").numbers(1, -1, 0);
        new Asked("7: MOVES and other CARDS stay").after("blank(0, 0, 1)", "put(0, 0, 9)", "shear(0, 0)")
            .due("blank(1, 0, 1)", 1).due("many(5)", 1).numbers(0, 9);
    }

    private static void blankRefused() {
        new Twins("7: no such CARD", Pasts.BUSY).refusedFor("blank(?, 0, 1)", UNKNOWN, 0, NO_CARDS);
        new Twins("7: no such SORT", Pasts.BUSY).refusedFor("blank(0, ?, 1)", OUTSIDE, 0, "-1", "4", "LEAST", "GREATEST");
        new Twins("7: n above 32", Pasts.BUSY).refusedFor("blank(0, 0, ?)", OUTSIDE, 0, "33", "64", "GREATEST");
        new Twins("7: a length below 0", Pasts.BUSY).refusedFor("blank(0, 0, ?)", SIZE, 4, "-1", "-32", "LEAST");
        new Twins("7: a length below 0, a CARD that has nothing", Pasts.BUSY).refused("blank(3, 3, -1)", SIZE, 4);
        new Twins("7: a new object").refused("blank(0, 0, -1)", SIZE, 4).refused("blank(3, 3, 33)", OUTSIDE, 0);
    }

    private static void blankRefusedInOrder() {
        new Twins("7: UNKNOWN ahead of OUTSIDE, SIZE", Pasts.BUSY).refused("blank(4, 4, 33)", UNKNOWN, 0)
            .refused("blank(-1, -1, -1)", UNKNOWN, 0).refused("blank(4, 0, 33)", UNKNOWN, 0)
            .refused("blank(4, 0, -1)", UNKNOWN, 0);
        new Twins("7: OUTSIDE ahead of SIZE", Pasts.BUSY).refused("blank(0, 4, -1)", OUTSIDE, 0)
            .refused("blank(0, -1, LEAST)", OUTSIDE, 0);
    }

    /** What is put, and what it is cut to. */
    private static void cuts(int sort, int[][] cuts) {
        Asked x = new Asked("8: SORT " + sort).after("blank(0, " + sort + ", 32)");
        for (int[] cut : cuts) {
            x.due("put(0, 31, " + cut[0] + ")", 1).due("get(0, 31)", cut[1]).due("fault()", 0);
        }
    }

    private static void putCutsBytes() {
        cuts(0, new int[][] {
            {0, 0}, {1, 1}, {-1, -1}, {127, 127}, {128, -128}, {129, -127}, {255, -1}, {256, 0}, {257, 1}, {-127, -127},
            {-128, -128}, {-129, 127}, {-255, 1}, {-256, 0}, {-257, -1}, {32767, -1}, {32768, 0}, {65535, -1},
            {Integer.MIN_VALUE, 0}, {Integer.MIN_VALUE + 128, -128}, {Integer.MAX_VALUE, -1}, {Integer.MAX_VALUE - 128, 127},
        });
    }

    private static void putCutsChars() {
        cuts(1, new int[][] {
            {0, 0}, {1, 1}, {-1, 65535}, {128, 128}, {255, 255}, {256, 256}, {32767, 32767}, {32768, 32768},
            {65534, 65534}, {65535, 65535}, {65536, 0}, {65537, 1}, {-65535, 1}, {-65536, 0}, {-65537, 65535},
            {-32768, 32768}, {-32769, 32767}, {Integer.MIN_VALUE, 0}, {Integer.MAX_VALUE, 65535},
        });
    }

    private static void putCutsShorts() {
        cuts(2, new int[][] {
            {0, 0}, {1, 1}, {-1, -1}, {128, 128}, {256, 256}, {32767, 32767}, {32768, -32768}, {32769, -32767},
            {65535, -1}, {65536, 0}, {65537, 1}, {-32767, -32767}, {-32768, -32768}, {-32769, 32767}, {-65535, 1},
            {-65536, 0}, {-65537, -1}, {Integer.MIN_VALUE, 0}, {Integer.MAX_VALUE, -1},
        });
    }

    private static void putCutsFlags() {
        cuts(3, new int[][] {
            {0, 0}, {1, 1}, {0, 0}, {2, 1}, {-1, 1}, {0, 0}, {256, 1}, {65536, 1}, {-256, 1}, {0, 0},
            {Integer.MIN_VALUE, 1}, {0, 0}, {Integer.MAX_VALUE, 1},
        });
    }

    private static void putAtEdges() {
        new Asked("8: the first and the last place").after("blank(2, 2, 3)").due("put(2, 0, 5)", 1)
            .numbers(2, 5, 0, 0).due("put(2, 2, 6)", 1).numbers(2, 5, 0, 6).due("put(2, 2, 0)", 1).numbers(2, 5, 0, 0);
        new Asked("8: 32 places").after("blank(3, 0, 32)").due("put(3, 31, 4)", 1).due("get(3, 31)", 4)
            .due("get(3, 30)", 0).due("put(3, 32, 4)", INDEX).due("get(3, 32)", LOST).due("fault()", 3);
        new Asked("8: MOVES and other CARDS stay").after("blank(0, 0, 1)", "blank(1, 0, 1)", "shear(0, 0)")
            .due("put(1, 0, 1)", 1).due("many(5)", 1).due("get(0, 0)", 0);
    }

    private static void putRefused() {
        new Twins("8: no such CARD", Pasts.BUSY).refusedFor("put(?, 0, 1)", UNKNOWN, 0, NO_CARDS);
        new Twins("8: a CARD that has nothing", Pasts.BUSY).refused("put(3, 0, 1)", NULL, 1);
        new Twins("8: no such place", Pasts.BUSY).refusedFor("put(0, ?, 1)", INDEX, 3,
            "-1", "6", "7", "31", "32", "LEAST", "GREATEST");
        new Twins("8: a CARD of 0 places", Pasts.BUSY).refusedFor("put(2, ?, 1)", INDEX, 3, "0", "-1", "1");
        new Twins("8: UNKNOWN ahead of INDEX", Pasts.BUSY).refused("put(4, -1, 1)", UNKNOWN, 0);
        new Twins("8: NULL ahead of INDEX", Pasts.BUSY).refusedFor("put(3, ?, 1)", NULL, 1, "-1", "32", "GREATEST");
        new Twins("8: a new object").refused("put(0, 0, 0)", NULL, 1).refused("put(3, 32, 0)", NULL, 1);
    }

    private static void getRefused() {
        new Twins("9: no such CARD", Pasts.BUSY).refusedFor("get(?, 0)", LOST, 0, NO_CARDS);
        new Twins("9: a CARD that has nothing", Pasts.BUSY).refused("get(3, 0)", LOST, 1);
        new Twins("9: no such place", Pasts.BUSY).refusedFor("get(0, ?)", LOST, 3,
            "-1", "6", "7", "31", "32", "LEAST", "GREATEST");
        new Twins("9: a CARD of 0 places", Pasts.BUSY).refusedFor("get(2, ?)", LOST, 3, "0", "-1", "1");
        new Twins("9: UNKNOWN ahead of INDEX", Pasts.BUSY).refused("get(4, -1)", LOST, 0);
        new Twins("9: NULL ahead of INDEX", Pasts.BUSY).refusedFor("get(3, ?)", LOST, 1, "-1", "32", "LEAST");
        new Twins("9: it changes nothing", Pasts.BUSY).refused("get(0, 0)", 10, 0).refused("get(0, 5)", 32767, 0)
            .refused("get(0, 2)", -32768, 0).refused("get(1, 3)", 23, 0);
    }

    private static Asked counted(String about, int card, int sort, int n) {
        Asked x = new Asked(about).after("blank(" + card + ", " + sort + ", " + n + ")");
        for (int i = 0; i < n; i++) {
            x.after("put(" + card + ", " + i + ", " + (i + 1) + ")");
        }
        return x;
    }

    private static void copyOfAll() {
        Asked x = counted("10: all of 32", 0, 1, 32).after("blank(3, 1, 32)").due("copy(0, 0, 3, 0, 32)", 32);
        for (int i = 0; i < 32; i++) {
            x.due("get(3, " + i + ")", i + 1).due("get(0, " + i + ")", i + 1);
        }
        x.due("copy(0, 0, 3, 0, 33)", INDEX).due("copy(3, 0, 3, 0, 32)", 32).due("get(3, 31)", 32);
    }

    private static void copyOfNone() {
        new Twins("10: none", Pasts.BUSY).refused("copy(0, 0, 1, 0, 0)", 0, 0).refused("copy(0, 5, 1, 3, 0)", 0, 0)
            .refused("copy(0, 6, 1, 4, 0)", 0, 0).refused("copy(2, 0, 2, 0, 0)", 0, 0)
            .refused("copy(1, 4, 1, 4, 0)", 0, 0);
        new Twins("10: none from beyond", Pasts.BUSY).refused("copy(0, 7, 1, 0, 0)", INDEX, 3)
            .refused("copy(0, 0, 1, 5, 0)", INDEX, 3).refused("copy(0, -1, 1, 0, 0)", INDEX, 3)
            .refused("copy(0, 0, 1, -1, 0)", INDEX, 3).refused("copy(2, 1, 2, 0, 0)", INDEX, 3)
            .refused("copy(2, 0, 2, 1, 0)", INDEX, 3);
        new Twins("10: none of unlike SORTS", Pasts.BUSY).refused("copy(0, 0, 2, 0, 0)", STORE, 2);
    }

    private static void copyWithinOneCard() {
        counted("10: the same, by one to the right", 0, 0, 4).due("copy(0, 0, 0, 1, 3)", 3).numbers(0, 1, 1, 2, 3);
        counted("10: the same, by one to the left", 0, 0, 4).due("copy(0, 1, 0, 0, 3)", 3).numbers(0, 2, 3, 4, 4);
        counted("10: the same, in its place", 0, 0, 4).due("copy(0, 0, 0, 0, 4)", 4).numbers(0, 1, 2, 3, 4);
        counted("10: the same, apart", 0, 0, 4).due("copy(0, 0, 0, 2, 2)", 2).numbers(0, 1, 2, 1, 2);
    }

    private static void copyUpToTheEnd() {
        counted("10: up to the end of both", 0, 2, 5).after("blank(1, 2, 3)").due("copy(0, 3, 1, 1, 2)", 2)
            .numbers(1, 0, 4, 5).due("copy(0, 2, 1, 0, 3)", 3).numbers(1, 3, 4, 5).due("copy(1, 0, 0, 2, 3)", 3)
            .numbers(0, 1, 2, 3, 4, 5).due("copy(0, 4, 1, 2, 1)", 1).numbers(1, 3, 4, 5)
            .due("copy(0, 0, 1, 0, 1)", 1).numbers(1, 1, 4, 5);
    }

    private static void copyOfEachSort() {
        long[][] kept = {{-128, 127}, {32768, 65535}, {-32768, 32767}, {1, 0}};
        String[][] put = {{"-128", "127"}, {"32768", "65535"}, {"-32768", "32767"}, {"-5", "0"}};
        for (int sort = 0; sort < 4; sort++) {
            new Asked("10: as they were, SORT " + sort).after("blank(0, " + sort + ", 2)", "blank(1, " + sort + ", 2)")
                .after("put(0, 0, " + put[sort][0] + ")", "put(0, 1, " + put[sort][1] + ")", "put(1, 1, 1)")
                .due("copy(0, 0, 1, 0, 2)", 2).numbers(1, kept[sort]).numbers(0, kept[sort]);
            for (int other = 0; other < 4; other++) {
                new Asked("10: SORTS " + sort + ", " + other).after("blank(0, " + sort + ", 2)", "put(0, 0, 1)")
                    .after("blank(1, " + other + ", 2)").due("copy(0, 0, 1, 0, 1)", sort == other ? 1 : STORE)
                    .due("fault()", sort == other ? 0 : 2).numbers(1, sort == other ? 1 : 0, 0);
            }
        }
    }

    private static void copyRefused() {
        new Twins("10: no such CARD", Pasts.BUSY).refusedFor("copy(?, 0, 1, 0, 1)", UNKNOWN, 0, NO_CARDS);
        new Twins("10: no such other CARD", Pasts.BUSY).refusedFor("copy(0, 0, ?, 0, 1)", UNKNOWN, 0, NO_CARDS);
        new Twins("10: the first has nothing", Pasts.BUSY).refused("copy(3, 0, 1, 0, 1)", NULL, 1);
        new Twins("10: the other has nothing", Pasts.BUSY).refused("copy(0, 0, 3, 0, 1)", NULL, 1);
        new Twins("10: both have nothing", Pasts.BUSY).refused("copy(3, 0, 3, 0, 0)", NULL, 1);
        new Twins("10: unlike SORTS", Pasts.BUSY).refused("copy(0, 0, 2, 0, 1)", STORE, 2)
            .refused("copy(2, 0, 1, 0, 1)", STORE, 2);
        new Twins("10: i below 0 or beyond", Pasts.BUSY).refusedFor("copy(0, ?, 1, 0, 1)", INDEX, 3,
            "-1", "6", "32", "LEAST", "GREATEST");
        new Twins("10: j below 0 or beyond", Pasts.BUSY).refusedFor("copy(0, 0, 1, ?, 1)", INDEX, 3,
            "-1", "4", "32", "LEAST", "GREATEST");
        new Twins("10: n below 0 or beyond", Pasts.BUSY).refusedFor("copy(0, 0, 1, 0, ?)", INDEX, 3,
            "-1", "5", "7", "32", "33", "LEAST", "GREATEST");
        new Twins("10: by one beyond the first", Pasts.BUSY).refused("copy(1, 1, 0, 0, 4)", INDEX, 3)
            .refused("copy(1, 0, 0, 0, 5)", INDEX, 3);
        new Twins("10: by one beyond the other", Pasts.BUSY).refused("copy(0, 0, 1, 1, 4)", INDEX, 3)
            .refused("copy(0, 1, 1, 0, 5)", INDEX, 3);
        new Twins("10: by one beyond itself", Pasts.BUSY).refused("copy(0, 0, 0, 1, 6)", INDEX, 3)
            .refused("copy(0, 1, 0, 0, 6)", INDEX, 3);
    }

    private static void copyRefusedInOrder() {
        new Twins("10: UNKNOWN ahead of NULL", Pasts.BUSY).refused("copy(3, 0, 4, 0, 1)", UNKNOWN, 0)
            .refused("copy(4, 0, 3, 0, 1)", UNKNOWN, 0);
        new Twins("10: UNKNOWN ahead of INDEX", Pasts.BUSY).refused("copy(0, -1, 4, 0, 1)", UNKNOWN, 0)
            .refused("copy(-1, 0, 0, 0, -1)", UNKNOWN, 0);
        new Twins("10: NULL ahead of INDEX", Pasts.BUSY).refused("copy(3, -1, 1, -1, -1)", NULL, 1)
            .refused("copy(1, -1, 3, -1, -1)", NULL, 1);
        new Twins("10: STORE ahead of INDEX", Pasts.BUSY).refused("copy(0, -1, 2, 0, 1)", STORE, 2)
            .refused("copy(0, 0, 2, 9, 1)", STORE, 2).refused("copy(2, 0, 0, 0, -1)", STORE, 2)
            .refused("copy(2, 0, 0, 0, 33)", STORE, 2);
    }

    private static void copyWrapsNotAround() {
        new Twins("10: sums beyond all ints", Pasts.BUSY).refused("copy(0, 1, 1, 1, GREATEST)", INDEX, 3)
            .refused("copy(0, GREATEST, 1, 0, 2)", INDEX, 3).refused("copy(0, 0, 1, GREATEST, 2)", INDEX, 3)
            .refused("copy(0, GREATEST, 1, GREATEST, GREATEST)", INDEX, 3)
            .refused("copy(0, LEAST, 1, LEAST, LEAST)", INDEX, 3).refused("copy(0, LEAST, 1, 0, GREATEST)", INDEX, 3)
            .refused("copy(0, 0, 1, LEAST, GREATEST)", INDEX, 3).refused("copy(0, GREATEST, 1, 0, LEAST)", INDEX, 3)
            .refused("copy(0, 6, 1, 4, -1)", INDEX, 3).refused("copy(0, 7, 1, 5, -1)", INDEX, 3);
    }

    private static void loseEachCard() {
        for (int card = 0; card < 4; card++) {
            String lose = "lose(" + card + ")";
            new Asked("11: CARD " + card).due(lose, 0).after("blank(" + card + ", 0, 0)").due(lose, 1).due(lose, 0)
                .after("blank(" + card + ", 3, 32)").due(lose, 1).due("many(6)", 0).due("get(" + card + ", 0)", LOST)
                .due("fault()", 1);
        }
        new Asked("11: the other CARDS stay").after("blank(0, 0, 1)", "blank(1, 0, 1)", "blank(3, 0, 1)")
            .due("lose(1)", 1).due("many(6)", 2).numbers(0, 0).numbers(3, 0);
        new Asked("11: MOVES and fault() stay").after("blank(0, 0, 1)", "shear(0, 0)", "put(0, 1, 0)").due("lose(0)", 1)
            .due("many(5)", 1).due("fault()", 3).due("lose(0)", 0).due("fault()", 3);
        new Asked("11: a row that comes later").after("blank(0, 1, 2)", "put(0, 1, 8)", "lose(0)", "blank(0, 1, 2)")
            .numbers(0, 0, 0);
    }

    private static void loseRefused() {
        new Twins("11: no such CARD", Pasts.BUSY).refusedFor("lose(?)", UNKNOWN, STAYS, NO_CARDS);
        new Twins("11: it had nothing", Pasts.BUSY).refused("lose(3)", 0, STAYS);
    }
}
