/** What objects went through before a call is refused, so that there is much that it could change. */
final class Pasts {
    /**
     * 6 columns with 4 DOTS, 9 MOVES, of which 8 can be taken back; CARD 0: 6 SHORTS, CARD 1: 4 SHORTS, CARD 2: no
     * FLAGS; CARD 3 has nothing. The DOTS are at last in column 1, row 29; column 3, rows 8 and 10; column 5, row 19.
     */
    static final String[] BUSY = {
        "page(6)", "dot(1, 30, 1)", "dot(3, 10, 1)", "dot(3, 12, 1)", "dot(5, 20, 1)",
        "blank(0, 2, 6)", "put(0, 0, 10)", "put(0, 1, 0)", "put(0, 2, -32768)", "put(0, 3, 13)", "put(0, 5, 32767)",
        "blank(1, 2, 4)", "put(1, 0, 20)", "put(1, 3, 23)", "blank(2, 3, 0)",
        "shear(0, 4)", "shear(1, 1)", "shear(0, -4)", "shear(1, -1)", "shear(0, 8)", "shear(0, -8)", "level()",
        "shear(0, 16)", "shear(0, -16)",
    };

    /** A full PAGE behind two MOVES by which no DOT moved. */
    static final String[] FULL = full();

    /** A DOT has come to the top of the last column by two MOVES. */
    static final String[] AT_TOP = {"page(6)", "dot(5, 10, 1)", "dot(0, 9, 1)", "shear(0, 16)", "shear(0, 16)"};

    /** A DOT has come to the bottom of the last column by two MOVES. */
    static final String[] AT_BOTTOM = {"page(6)", "dot(5, 21, 1)", "dot(0, 9, 1)", "shear(0, -16)", "shear(0, -16)"};

    /** A DOT in the first column is on top, and the BASELINE is bent so that level() would move it up. */
    static final String[] BENT_AT_TOP = {
        "page(4)", "dot(0, 9, 1)", "dot(1, 8, 1)", "dot(2, 7, 1)", "dot(3, 6, 1)", "dot(0, 1, 1)", "level()",
        "shear(0, 16)",
    };

    /** A DOT in the first column is in row 31, and the BASELINE is bent so that level() would move it down. */
    static final String[] BENT_AT_BOTTOM = {
        "page(4)", "dot(0, 6, 1)", "dot(1, 7, 1)", "dot(2, 8, 1)", "dot(3, 9, 1)", "dot(0, 29, 1)", "level()",
        "shear(0, -16)",
    };

    private Pasts() {
    }

    private static String[] full() {
        String[] calls = new String[1 + 24 + 32 + 2];
        int at = 0;
        calls[at++] = "blank(0, 3, 24)";
        for (int k = 0; k < 24; k++) {
            calls[at++] = "put(0, " + k + ", 1)";
        }
        for (int r = 0; r < 32; r++) {
            calls[at++] = "row(" + r + ", 0)";
        }
        calls[at++] = "shear(0, 0)";
        calls[at] = "level()";
        return calls;
    }
}
