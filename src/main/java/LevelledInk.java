import java.util.Arrays;

/** A page of dots made straight. The numbered promises of DOC.md say what each call answers. */
public final class LevelledInk {
    public static final int UNKNOWN = -1, OUTSIDE = -2, STATE = -3, NONE = -9;
    public static final long LOST = Long.MIN_VALUE;

    private static final int ROWS = 32, MOST_COLUMNS = 24;
    private static final int CARDS = 4, MOST_PLACES = 32;
    private static final int MOST_MOVES = 8;
    private static final int SKEW = 0, SLANT = 1;
    private static final int STEEPEST = 16;
    private static final int FARTHEST_ASKED = 99, MOST_TRIED_ASKED = 32;
    // Numbers that may be below 0 are told with this added, so that no refusal looks like them.
    private static final int LIFT = 100;

    private static final int NO_FAULT = 0, NULL = 1, STORE = 2, INDEX = 3, SIZE = 4;
    private static final int FAULT_BASE = -10;

    private final Sheet sheet = new Sheet();
    private final Card[] cards = new Card[CARDS];
    private final Shears shears = new Shears();
    private final Strokes strokes = new Strokes();
    private final Baseline line = new Baseline();
    private final int[] slides = new int[ROWS];
    private int lastFault = NO_FAULT;

    public LevelledInk() {
        for (int c = 0; c < CARDS; c++) {
            cards[c] = new Card();
        }
    }

    // ---- 1 the page, cards

    public int page(int w) {
        if (w < 1 || w > MOST_COLUMNS) {
            return OUTSIDE;
        }
        int before = sheet.ink();
        sheet.renew(w);
        return before;
    }

    public int dot(int k, int r, int v) {
        if (!sheet.hasColumn(k) || !isRow(r)) {
            return UNKNOWN;
        }
        if (v != 0 && v != 1) {
            return OUTSIDE;
        }
        int before = sheet.inked(k, r) ? 1 : 0;
        sheet.forgetMoves();
        sheet.draw(k, r, v == 1);
        return before;
    }

    public long column(int k) {
        return sheet.hasColumn(k) ? sheet.dots(k) & 0xFFFFFFFFL : LOST;
    }

    public int row(int r, int card) {
        lastFault = NO_FAULT;
        if (!isRow(r) || !isCard(card)) {
            return UNKNOWN;
        }
        Card from = cards[card];
        if (from.isNothing()) {
            return failed(NULL);
        }
        sheet.forgetMoves();
        for (int k = 0; k < sheet.width(); k++) {
            sheet.draw(k, r, from.hasPlace(k) && from.number(k) != 0);
        }
        return sheet.inkOfRow(r);
    }

    public int take(int card, int r) {
        if (!isCard(card) || !isRow(r)) {
            return UNKNOWN;
        }
        Card to = cards[card];
        to.renew(Card.FLAGS, sheet.width());
        for (int k = 0; k < sheet.width(); k++) {
            to.write(k, sheet.inked(k, r) ? 1 : 0);
        }
        return sheet.inkOfRow(r);
    }

    public int blank(int card, int sort, int n) {
        lastFault = NO_FAULT;
        if (!isCard(card)) {
            return UNKNOWN;
        }
        if (sort < Card.BYTES || sort > Card.FLAGS || n > MOST_PLACES) {
            return OUTSIDE;
        }
        if (n < 0) {
            return failed(SIZE);
        }
        cards[card].renew(sort, n);
        return 1;
    }

    public int put(int card, int i, int v) {
        lastFault = NO_FAULT;
        if (!isCard(card)) {
            return UNKNOWN;
        }
        int fault = cards[card].faultAt(i);
        if (fault != NO_FAULT) {
            return failed(fault);
        }
        cards[card].write(i, v);
        return 1;
    }

    public long get(int card, int i) {
        lastFault = NO_FAULT;
        if (!isCard(card)) {
            return LOST;
        }
        lastFault = cards[card].faultAt(i);
        return lastFault == NO_FAULT ? cards[card].number(i) : LOST;
    }

    public int copy(int card, int i, int other, int j, int n) {
        lastFault = NO_FAULT;
        if (!isCard(card) || !isCard(other)) {
            return UNKNOWN;
        }
        int fault = cards[card].faultOfCopy(i, cards[other], j, n);
        if (fault != NO_FAULT) {
            return failed(fault);
        }
        cards[card].copyTo(i, cards[other], j, n);
        return n;
    }

    public int lose(int card) {
        if (!isCard(card)) {
            return UNKNOWN;
        }
        int had = cards[card].isNothing() ? 0 : 1;
        cards[card].drop();
        return had;
    }

    // ---- 2 shears

    public int shift(int axis, int s, int k) {
        if (!isAxis(axis) || !isShear(s)) {
            return OUTSIDE;
        }
        boolean known = axis == SKEW ? sheet.hasColumn(k) : isRow(k);
        return known ? shiftOf(axis, s, k) : UNKNOWN;
    }

    public int profile(int axis, int s, int i) {
        if (!isAxis(axis) || !isShear(s) || i < -FARTHEST_ASKED || i > FARTHEST_ASKED) {
            return OUTSIDE;
        }
        return shears.countAt(sheet, axis, s, i);
    }

    public int sharp(int axis, int s) {
        if (!isAxis(axis) || !isShear(s)) {
            return OUTSIDE;
        }
        return shears.sharpness(sheet, axis, s);
    }

    public int best(int axis) {
        if (!isAxis(axis)) {
            return OUTSIDE;
        }
        shears.tryAll(sheet, axis);
        return shears.sharpest() + LIFT;
    }

    public int found(int axis) {
        if (!isAxis(axis)) {
            return OUTSIDE;
        }
        shears.search(sheet, axis);
        return shears.sharpest() + LIFT;
    }

    public int tried(int axis, int k) {
        if (!isAxis(axis) || k < 0 || k > MOST_TRIED_ASKED) {
            return OUTSIDE;
        }
        shears.search(sheet, axis);
        return k < shears.attempts() ? shears.attempt(k) + LIFT : NONE;
    }

    public int shear(int axis, int s) {
        if (!isAxis(axis) || !isShear(s)) {
            return OUTSIDE;
        }
        int lines = axis == SKEW ? sheet.width() : ROWS;
        for (int k = 0; k < lines; k++) {
            slides[k] = shiftOf(axis, s, k);
        }
        return axis == SKEW ? sheet.slideColumns(slides) : sheet.slideRows(slides);
    }

    // ---- 3 runs, lines

    public int run(int k, int what) {
        strokes.find(sheet);
        if (k < 0 || k >= strokes.runs()) {
            return UNKNOWN;
        }
        switch (what) {
            case 0: return strokes.rowOf(k);
            case 1: return strokes.firstOf(k);
            case 2: return strokes.dotsOf(k);
            case 3: return strokes.strokeOf(k);
            default: return OUTSIDE;
        }
    }

    public int stroke(int k, int what) {
        strokes.find(sheet);
        if (k < 0 || k >= strokes.count()) {
            return UNKNOWN;
        }
        switch (what) {
            case 0: return strokes.dotsTogether(k);
            case 1: return strokes.runsTogether(k);
            case 2: return strokes.leastRow(k);
            case 3: return strokes.greatestRow(k);
            case 4: return strokes.leastColumn(k);
            case 5: return strokes.greatestColumn(k);
            default: return OUTSIDE;
        }
    }

    public int baseline(int what) {
        if (what < 0 || what > 2) {
            return OUTSIDE;
        }
        line.find(sheet);
        if (line.length() == 0) {
            return NONE;
        }
        switch (what) {
            case 0: return line.first();
            case 1: return line.length();
            default: return line.height();
        }
    }

    public int foot(int k) {
        if (!sheet.hasColumn(k)) {
            return UNKNOWN;
        }
        line.find(sheet);
        return line.covers(k) ? line.footRow(k) : NONE;
    }

    public int curl(int k) {
        if (!sheet.hasColumn(k)) {
            return UNKNOWN;
        }
        line.find(sheet);
        return line.length() == 0 ? STATE : line.bend(k) + LIFT;
    }

    public long mean() {
        line.find(sheet);
        return line.length() == 0 ? LOST : line.meanBits();
    }

    public long rest() {
        line.find(sheet);
        return line.length() == 0 ? LOST : Binary.doubleAboveWhole(line.meanBits());
    }

    public int slope() {
        line.find(sheet);
        return line.length() < 2 ? STATE : line.slopeBits();
    }

    public int level() {
        line.find(sheet);
        if (line.length() == 0) {
            return STATE;
        }
        for (int k = 0; k < sheet.width(); k++) {
            slides[k] = line.bend(k);
        }
        return sheet.slideColumns(slides);
    }

    // ---- 4 moves

    public int back() {
        if (sheet.moves() == 0) {
            return STATE;
        }
        sheet.takeBack();
        return sheet.moves();
    }

    public int fault() {
        return lastFault;
    }

    public int many(int what) {
        switch (what) {
            case 0: return sheet.width();
            case 1: return sheet.ink();
            case 2: strokes.find(sheet); return strokes.runs();
            case 3: strokes.find(sheet); return strokes.count();
            case 4: return sheet.allFeet();
            case 5: return sheet.moves();
            case 6: return filledCards();
            default: return OUTSIDE;
        }
    }

    // ---- what several calls ask

    private static boolean isRow(int r) {
        return r >= 0 && r < ROWS;
    }

    private static boolean isCard(int card) {
        return card >= 0 && card < CARDS;
    }

    private static boolean isAxis(int axis) {
        return axis == SKEW || axis == SLANT;
    }

    private static boolean isShear(int s) {
        return s >= -STEEPEST && s <= STEEPEST;
    }

    private int failed(int fault) {
        lastFault = fault;
        return FAULT_BASE - fault;
    }

    private int filledCards() {
        int filled = 0;
        for (int c = 0; c < CARDS; c++) {
            filled += cards[c].isNothing() ? 0 : 1;
        }
        return filled;
    }

    // Half a divisor more, and then down, also below 0: so a half goes to the greater number.
    private static int shiftOf(int axis, int s, int k) {
        int steps = axis == SKEW ? k : ROWS - 1 - k;
        return Math.floorDiv(s * steps + STEEPEST / 2, STEEPEST);
    }

    /** A row of numbers of one sort, or nothing. */
    private static final class Card {
        static final int BYTES = 0, CHARS = 1, SHORTS = 2, FLAGS = 3;
        private static final int NOTHING = -1;

        private final int[] places = new int[MOST_PLACES];
        private int sort = NOTHING;
        private int length = 0;

        boolean isNothing() {
            return sort == NOTHING;
        }

        void drop() {
            sort = NOTHING;
            length = 0;
        }

        void renew(int newSort, int newLength) {
            sort = newSort;
            length = Math.max(0, Math.min(newLength, MOST_PLACES));
            Arrays.fill(places, 0);
        }

        boolean hasPlace(int i) {
            return i >= 0 && i < length;
        }

        int number(int i) {
            return hasPlace(i) ? places[i] : 0;
        }

        void write(int i, int v) {
            if (hasPlace(i)) {
                places[i] = cut(v);
            }
        }

        int faultAt(int i) {
            if (isNothing()) {
                return NULL;
            }
            return hasPlace(i) ? NO_FAULT : INDEX;
        }

        int faultOfCopy(int i, Card other, int j, int n) {
            if (isNothing() || other.isNothing()) {
                return NULL;
            }
            if (sort != other.sort) {
                return STORE;
            }
            return hasPart(i, n) && other.hasPart(j, n) ? NO_FAULT : INDEX;
        }

        void copyTo(int i, Card other, int j, int n) {
            if (hasPart(i, n) && other.hasPart(j, n)) {
                System.arraycopy(places, i, other.places, j, n);
            }
        }

        // The bound is told by a difference: a sum of two great numbers would wrap around.
        private boolean hasPart(int from, int n) {
            return from >= 0 && n >= 0 && n <= length && from <= length - n;
        }

        private int cut(int v) {
            switch (sort) {
                case BYTES: return (byte) v;
                case CHARS: return (char) v;
                case SHORTS: return (short) v;
                default: return v != 0 ? 1 : 0;
            }
        }
    }

    /** The dots, a set of rows for each column, and the pages ahead of the latest moves. */
    private static final class Sheet {
        private final int[] columns = new int[MOST_COLUMNS];
        private final int[] fresh = new int[MOST_COLUMNS];
        private final int[][] earlier = new int[MOST_MOVES][MOST_COLUMNS];
        private int width = MOST_COLUMNS;
        private int kept = 0;
        // The pages in 'earlier' go round, so that a ninth move drops the oldest one.
        private int next = 0;

        int width() {
            return width;
        }

        boolean hasColumn(int k) {
            return k >= 0 && k < width;
        }

        int dots(int k) {
            return hasColumn(k) ? columns[k] : 0;
        }

        boolean inked(int k, int r) {
            return isRow(r) && (dots(k) >>> r & 1) == 1;
        }

        void draw(int k, int r, boolean ink) {
            if (!hasColumn(k) || !isRow(r)) {
                return;
            }
            int place = 1 << r;
            columns[k] = ink ? columns[k] | place : columns[k] & ~place;
        }

        void renew(int newWidth) {
            width = Math.max(1, Math.min(newWidth, MOST_COLUMNS));
            Arrays.fill(columns, 0);
            forgetMoves();
        }

        int ink() {
            int sum = 0;
            for (int k = 0; k < width; k++) {
                sum += Integer.bitCount(columns[k]);
            }
            return sum;
        }

        int inkOfRow(int r) {
            int sum = 0;
            for (int k = 0; k < width; k++) {
                sum += inked(k, r) ? 1 : 0;
            }
            return sum;
        }

        /** The set of rows in which a column has a dot with none right below. */
        int feet(int k) {
            return dots(k) & ~(dots(k) >>> 1);
        }

        int allFeet() {
            int sum = 0;
            for (int k = 0; k < width; k++) {
                sum += Integer.bitCount(feet(k));
            }
            return sum;
        }

        int moves() {
            return kept;
        }

        void forgetMoves() {
            kept = 0;
        }

        void takeBack() {
            if (kept == 0) {
                return;
            }
            kept--;
            next = (next + MOST_MOVES - 1) % MOST_MOVES;
            System.arraycopy(earlier[next], 0, columns, 0, MOST_COLUMNS);
        }

        /** Column k goes up by up[k]: how many dots moved, or STATE. */
        int slideColumns(int[] up) {
            int moved = 0;
            for (int k = 0; k < width && k < up.length; k++) {
                fresh[k] = raised(columns[k], up[k]);
                int dots = Integer.bitCount(columns[k]);
                if (Integer.bitCount(fresh[k]) != dots) {
                    return STATE;
                }
                moved += up[k] == 0 ? 0 : dots;
            }
            finishMove();
            return moved;
        }

        /** Row r goes to the left by left[r]: how many dots moved, or STATE. */
        int slideRows(int[] left) {
            int moved = 0;
            Arrays.fill(fresh, 0);
            for (int r = 0; r < ROWS && r < left.length; r++) {
                for (int k = 0; k < width; k++) {
                    if (!inked(k, r)) {
                        continue;
                    }
                    int to = k - left[r];
                    if (!hasColumn(to)) {
                        return STATE;
                    }
                    fresh[to] |= 1 << r;
                    moved += left[r] == 0 ? 0 : 1;
                }
            }
            finishMove();
            return moved;
        }

        // Java's shifts look at the lowest 5 bits of a distance alone.
        private static int raised(int dots, int up) {
            if (up >= ROWS || up <= -ROWS) {
                return 0;
            }
            return up >= 0 ? dots >>> up : dots << -up;
        }

        private void finishMove() {
            System.arraycopy(columns, 0, earlier[next], 0, MOST_COLUMNS);
            System.arraycopy(fresh, 0, columns, 0, width);
            next = (next + 1) % MOST_MOVES;
            kept = Math.min(kept + 1, MOST_MOVES);
        }
    }

    /** How sharp a sheet is at shears, and the shears that were tried, in their order. */
    private static final class Shears {
        private static final int WIDEST_STEP = 8, FIRST_FINE_STEP = 4;
        // No shift is farther than ROWS - 1, so no dot is sheared beyond these.
        private static final int LEAST_PLACE = 1 - ROWS;
        private static final int GREATEST_PLACE = ROWS + MOST_COLUMNS - 2;

        private final int[] counts = new int[GREATEST_PLACE - LEAST_PLACE + 1];
        private final int[] order = new int[2 * STEEPEST + 1];
        private final boolean[] seen = new boolean[2 * STEEPEST + 1];
        private int attempts = 0;
        private int sharpest = 0;
        private int greatest = 0;

        int attempts() {
            return attempts;
        }

        int attempt(int k) {
            return k >= 0 && k < attempts ? order[k] : 0;
        }

        int sharpest() {
            return sharpest;
        }

        int countAt(Sheet sheet, int axis, int s, int i) {
            tally(sheet, axis, s);
            return i >= LEAST_PLACE && i <= GREATEST_PLACE ? counts[i - LEAST_PLACE] : 0;
        }

        int sharpness(Sheet sheet, int axis, int s) {
            tally(sheet, axis, s);
            int sum = 0;
            int before = 0;
            for (int count : counts) {
                sum += (count - before) * (count - before);
                before = count;
            }
            return sum + before * before;
        }

        void tryAll(Sheet sheet, int axis) {
            begin();
            for (int s = -STEEPEST; s <= STEEPEST; s++) {
                attemptAt(sheet, axis, s);
            }
        }

        void search(Sheet sheet, int axis) {
            begin();
            for (int s = -STEEPEST; s <= STEEPEST; s += WIDEST_STEP) {
                attemptAt(sheet, axis, s);
            }
            for (int step = FIRST_FINE_STEP; step >= 1; step /= 2) {
                // Both sides are taken from the same shear, even if the first side is sharper.
                int middle = sharpest;
                attemptAt(sheet, axis, middle - step);
                attemptAt(sheet, axis, middle + step);
            }
        }

        private void begin() {
            attempts = 0;
            for (int k = 0; k < seen.length; k++) {
                seen[k] = false;
            }
        }

        private void attemptAt(Sheet sheet, int axis, int s) {
            if (!isShear(s) || seen[s + STEEPEST] || attempts >= order.length) {
                return;
            }
            int sharpness = sharpness(sheet, axis, s);
            if (attempts == 0 || isBetter(sharpness, s)) {
                greatest = sharpness;
                sharpest = s;
            }
            seen[s + STEEPEST] = true;
            order[attempts] = s;
            attempts++;
        }

        private boolean isBetter(int sharpness, int s) {
            if (sharpness != greatest) {
                return sharpness > greatest;
            }
            if (Math.abs(s) != Math.abs(sharpest)) {
                return Math.abs(s) < Math.abs(sharpest);
            }
            return s < sharpest;
        }

        private void tally(Sheet sheet, int axis, int s) {
            Arrays.fill(counts, 0);
            for (int k = 0; k < sheet.width(); k++) {
                int left = sheet.dots(k);
                for (int r = 0; r < ROWS && left != 0; r++) {
                    if ((left & 1) == 1) {
                        countIn(axis == SKEW ? r - shiftOf(SKEW, s, k) : k - shiftOf(SLANT, s, r));
                    }
                    left >>>= 1;
                }
            }
        }

        private void countIn(int place) {
            if (place >= LEAST_PLACE && place <= GREATEST_PLACE) {
                counts[place - LEAST_PLACE]++;
            }
        }
    }

    /** The runs of a sheet and the strokes that they make, as they were when find was called. */
    private static final class Strokes {
        private static final int MOST_RUNS = ROWS * ((MOST_COLUMNS + 1) / 2);

        private final int[] rows = new int[MOST_RUNS];
        private final int[] firsts = new int[MOST_RUNS];
        private final int[] lasts = new int[MOST_RUNS];
        // An earlier run of the same stroke, or the run itself if it is the stroke's first one.
        private final int[] links = new int[MOST_RUNS];
        private final int[] numbers = new int[MOST_RUNS];
        private int runs = 0;
        private int count = 0;

        void find(Sheet sheet) {
            runs = 0;
            int above = 0;
            for (int r = 0; r < ROWS; r++) {
                int begin = runs;
                addRuns(sheet, r);
                linkRows(above, begin);
                above = begin;
            }
            numberStrokes();
        }

        int runs() {
            return runs;
        }

        int count() {
            return count;
        }

        int rowOf(int k) {
            return isRun(k) ? rows[k] : UNKNOWN;
        }

        int firstOf(int k) {
            return isRun(k) ? firsts[k] : UNKNOWN;
        }

        int dotsOf(int k) {
            return isRun(k) ? lasts[k] - firsts[k] + 1 : UNKNOWN;
        }

        int strokeOf(int k) {
            return isRun(k) ? numbers[k] : UNKNOWN;
        }

        int dotsTogether(int stroke) {
            int sum = 0;
            for (int k = 0; k < runs; k++) {
                sum += numbers[k] == stroke ? dotsOf(k) : 0;
            }
            return sum;
        }

        int runsTogether(int stroke) {
            int sum = 0;
            for (int k = 0; k < runs; k++) {
                sum += numbers[k] == stroke ? 1 : 0;
            }
            return sum;
        }

        int leastRow(int stroke) {
            return least(rows, stroke);
        }

        int greatestRow(int stroke) {
            return greatest(rows, stroke);
        }

        int leastColumn(int stroke) {
            return least(firsts, stroke);
        }

        int greatestColumn(int stroke) {
            return greatest(lasts, stroke);
        }

        private int least(int[] values, int stroke) {
            int least = ROWS;
            for (int k = 0; k < runs && k < values.length; k++) {
                least = numbers[k] == stroke ? Math.min(least, values[k]) : least;
            }
            return least;
        }

        private int greatest(int[] values, int stroke) {
            int greatest = 0;
            for (int k = 0; k < runs && k < values.length; k++) {
                greatest = numbers[k] == stroke ? Math.max(greatest, values[k]) : greatest;
            }
            return greatest;
        }

        private boolean isRun(int k) {
            return k >= 0 && k < runs;
        }

        private void addRuns(Sheet sheet, int r) {
            boolean open = false;
            for (int k = 0; k < sheet.width(); k++) {
                boolean inked = sheet.inked(k, r);
                if (inked && !open && runs < MOST_RUNS) {
                    rows[runs] = r;
                    firsts[runs] = k;
                    links[runs] = runs;
                    runs++;
                }
                if (inked && runs > 0) {
                    lasts[runs - 1] = k;
                }
                open = inked;
            }
        }

        /** Links the runs from 'above' on with those from 'begin' on, the row right below. */
        private void linkRows(int above, int begin) {
            for (int a = above; a < begin; a++) {
                for (int b = begin; b < runs; b++) {
                    if (firsts[a] <= lasts[b] + 1 && firsts[b] <= lasts[a] + 1) {
                        join(a, b);
                    }
                }
            }
        }

        private void join(int a, int b) {
            int one = firstRun(a);
            int other = firstRun(b);
            links[Math.max(one, other)] = Math.min(one, other);
        }

        private int firstRun(int k) {
            int at = k;
            for (int steps = 0; steps < runs && links[at] != at; steps++) {
                at = links[at];
            }
            return at;
        }

        // A link goes to an earlier run alone, whose number stands when the later one asks for it.
        private void numberStrokes() {
            count = 0;
            for (int k = 0; k < runs; k++) {
                if (links[k] == k) {
                    numbers[k] = count;
                    count++;
                } else {
                    numbers[k] = numbers[links[k]];
                }
            }
        }
    }

    /** The longest chain of feet of a sheet, as it was when find was called. */
    private static final class Baseline {
        // How many columns the longest chain has that begins at a foot there; 0: there is no foot.
        private final int[][] reach = new int[MOST_COLUMNS][ROWS];
        private final int[] rows = new int[MOST_COLUMNS];
        private int width = 0;
        private int first = 0;
        private int length = 0;
        private int firstRow = 0;
        private int sum = 0;

        void find(Sheet sheet) {
            width = Math.min(sheet.width(), MOST_COLUMNS);
            length = 0;
            for (int k = width - 1; k >= 0; k--) {
                measure(k, sheet.feet(k));
            }
            follow();
        }

        int first() {
            return first;
        }

        int length() {
            return length;
        }

        int height() {
            return length > 0 ? (2 * sum + length) / (2 * length) : 0;
        }

        boolean covers(int k) {
            return k >= first && k < first + length;
        }

        int footRow(int k) {
            return covers(k) ? rows[k] : NONE;
        }

        int bend(int k) {
            int nearest = Math.max(first, Math.min(k, first + length - 1));
            return footRow(nearest) - height();
        }

        long meanBits() {
            return Binary.nearestDouble(sum, length);
        }

        int slopeBits() {
            int columnSum = 0;
            int squareSum = 0;
            int productSum = 0;
            for (int k = first; k < first + length; k++) {
                columnSum += k;
                squareSum += k * k;
                productSum += k * footRow(k);
            }
            int above = length * productSum - columnSum * sum;
            int below = length * squareSum - columnSum * columnSum;
            return Binary.nearestFloat(above, below);
        }

        // Columns come from the right and rows from the top: of chains as long as the longest the
        // last one kept begins in the least column and there in the greatest row.
        private void measure(int k, int feet) {
            for (int r = 0; r < ROWS; r++) {
                boolean isFoot = (feet >>> r & 1) == 1;
                reach[k][r] = isFoot ? 1 + reachAt(k + 1, lowestOnward(k + 1, r)) : 0;
                if (isFoot && reach[k][r] >= length) {
                    length = reach[k][r];
                    first = k;
                    firstRow = r;
                }
            }
        }

        private void follow() {
            sum = 0;
            int r = firstRow;
            for (int k = first; k < first + length && k < MOST_COLUMNS; k++) {
                rows[k] = r;
                sum += r;
                r = lowestOnward(k + 1, r);
            }
        }

        /** Where in column k the longest chain goes on from row r before; the lowest of several. */
        private int lowestOnward(int k, int r) {
            int onward = r + 1;
            for (int next = r; next >= r - 1; next--) {
                if (reachAt(k, next) > reachAt(k, onward)) {
                    onward = next;
                }
            }
            return onward;
        }

        private int reachAt(int k, int r) {
            return k >= 0 && k < width && isRow(r) ? reach[k][r] : 0;
        }
    }

    /** Bits of floats and doubles, made of whole numbers: each is exact or rounded just once. */
    private static final class Binary {
        private static final int DOUBLE_DIGITS = 52, DOUBLE_BIAS = 1023;
        private static final int FLOAT_DIGITS = 23, FLOAT_BIAS = 127, FLOAT_SIGN = 1 << 31;
        // Far above what a ratio of numbers of this program can need.
        private static final int MOST_POWER = 32;

        /** The double nearest to above by below, neither of which has more than 10 bits. */
        static long nearestDouble(int above, int below) {
            return nearest(above, below, DOUBLE_DIGITS, DOUBLE_BIAS);
        }

        static int nearestFloat(int above, int below) {
            int size = (int) nearest(Math.abs((long) above), below, FLOAT_DIGITS, FLOAT_BIAS);
            return above < 0 ? size | FLOAT_SIGN : size;
        }

        /** What a double that is not below 0 has above its whole part; all its digits stay. */
        static long doubleAboveWhole(long bits) {
            int power = (int) (bits >>> DOUBLE_DIGITS) - DOUBLE_BIAS;
            if (power < 0) {
                return bits;
            }
            long digits = power < DOUBLE_DIGITS ? bits & ((1L << (DOUBLE_DIGITS - power)) - 1) : 0;
            if (digits == 0) {
                return 0;
            }
            long lead = 1L << DOUBLE_DIGITS;
            for (int steps = 0; steps <= DOUBLE_DIGITS && digits < lead; steps++) {
                digits <<= 1;
                power--;
            }
            return packed(power, digits, DOUBLE_DIGITS, DOUBLE_BIAS);
        }

        private static long nearest(long above, long below, int places, int bias) {
            if (above <= 0 || below <= 0) {
                return 0;
            }
            long top = above;
            long bottom = below;
            int power = 0;
            for (; top >= 2 * bottom && power < MOST_POWER; power++) {
                bottom *= 2;
            }
            for (; top < bottom && power > -MOST_POWER; power--) {
                top *= 2;
            }
            long digits = (top << places) / bottom;
            long twiceLeft = 2 * ((top << places) % bottom);
            if (twiceLeft > bottom || twiceLeft == bottom && (digits & 1) == 1) {
                digits++;
            }
            return packed(power, digits, places, bias);
        }

        // The first digit is always 1 and not kept. Digits that were rounded up to one more place
        // carry into the power by the sum.
        private static long packed(int power, long digits, int places, int bias) {
            return ((long) (power + bias) << places) + digits - (1L << places);
        }
    }
}
