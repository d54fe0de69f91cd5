import java.util.ArrayDeque;
import java.util.ArrayList;
import java.util.Arrays;
import java.util.Deque;
import java.util.List;
import java.util.TreeMap;

/** The document once more, as plainly as Java's library allows, for random runs to be held against. */
final class PlainInk {
    private static final long LOST = Long.MIN_VALUE;
    private static final int UNKNOWN = -1, OUTSIDE = -2, STATE = -3, NONE = -9;

    private boolean[][] dots = new boolean[24][32];
    private final Object[] cards = new Object[4];
    private final Deque<boolean[][]> moves = new ArrayDeque<>();
    private int fault = 0;

    /** A call by its name, with as many arguments as it takes. */
    long answer(String name, int[] a) {
        switch (name) {
            case "page": return page(a[0]);
            case "dot": return dot(a[0], a[1], a[2]);
            case "column": return column(a[0]);
            case "row": return row(a[0], a[1]);
            case "take": return take(a[0], a[1]);
            case "blank": return blank(a[0], a[1], a[2]);
            case "put": return put(a[0], a[1], a[2]);
            case "get": return get(a[0], a[1]);
            case "copy": return copy(a[0], a[1], a[2], a[3], a[4]);
            case "lose": return lose(a[0]);
            case "shift": return shift(a[0], a[1], a[2]);
            case "profile": return profile(a[0], a[1], a[2]);
            case "sharp": return noShear(a[0], a[1]) ? OUTSIDE : sharpness(a[0], a[1]);
            case "best": return noAxis(a[0]) ? OUTSIDE : bestOf(a[0], allShears()) + 100;
            case "found": return noAxis(a[0]) ? OUTSIDE : bestOf(a[0], searched(a[0])) + 100;
            case "tried": return tried(a[0], a[1]);
            case "shear": return shear(a[0], a[1]);
            case "run": return run(a[0], a[1]);
            case "stroke": return stroke(a[0], a[1]);
            case "baseline": return baseline(a[0]);
            case "foot": return foot(a[0]);
            case "curl": return curl(a[0]);
            case "mean": return chain().isEmpty() ? LOST : Double.doubleToLongBits(mean());
            case "rest": return chain().isEmpty() ? LOST : Double.doubleToLongBits(mean() - Math.floor(mean()));
            case "slope": return slope();
            case "level": return level();
            case "back": return back();
            case "fault": return fault;
            case "many": return many(a[0]);
            default: throw new IllegalArgumentException(name);
        }
    }

    private int width() {
        return dots.length;
    }

    private boolean noColumn(int k) {
        return k < 0 || k >= width();
    }

    private static boolean noRow(int r) {
        return r < 0 || r > 31;
    }

    private static boolean noCard(int c) {
        return c < 0 || c > 3;
    }

    private static boolean noAxis(int axis) {
        return axis != 0 && axis != 1;
    }

    private static boolean noShear(int axis, int s) {
        return noAxis(axis) || s < -16 || s > 16;
    }

    private boolean at(int k, int r) {
        return !noColumn(k) && !noRow(r) && dots[k][r];
    }

    private int ink() {
        int sum = 0;
        for (boolean[] column : dots) {
            for (boolean dot : column) {
                sum += dot ? 1 : 0;
            }
        }
        return sum;
    }

    private long page(int w) {
        if (w < 1 || w > 24) {
            return OUTSIDE;
        }
        int before = ink();
        dots = new boolean[w][32];
        moves.clear();
        return before;
    }

    private long dot(int k, int r, int v) {
        if (noColumn(k) || noRow(r)) {
            return UNKNOWN;
        }
        if (v != 0 && v != 1) {
            return OUTSIDE;
        }
        int before = dots[k][r] ? 1 : 0;
        dots[k][r] = v == 1;
        moves.clear();
        return before;
    }

    private long column(int k) {
        if (noColumn(k)) {
            return LOST;
        }
        long set = 0;
        for (int r = 0; r < 32; r++) {
            set += dots[k][r] ? 1L << r : 0;
        }
        return set;
    }

    private int faulted(int which) {
        fault = which;
        return -10 - which;
    }

    private static int length(Object card) {
        return java.lang.reflect.Array.getLength(card);
    }

    private static long number(Object card, int i) {
        if (card instanceof byte[] bytes) {
            return bytes[i];
        }
        if (card instanceof char[] chars) {
            return chars[i];
        }
        if (card instanceof short[] shorts) {
            return shorts[i];
        }
        return ((boolean[]) card)[i] ? 1 : 0;
    }

    private long row(int r, int c) {
        fault = 0;
        if (noRow(r) || noCard(c)) {
            return UNKNOWN;
        }
        if (cards[c] == null) {
            return faulted(1);
        }
        int sum = 0;
        for (int k = 0; k < width(); k++) {
            dots[k][r] = k < length(cards[c]) && number(cards[c], k) != 0;
            sum += dots[k][r] ? 1 : 0;
        }
        moves.clear();
        return sum;
    }

    private long take(int c, int r) {
        if (noCard(c) || noRow(r)) {
            return UNKNOWN;
        }
        boolean[] flags = new boolean[width()];
        int sum = 0;
        for (int k = 0; k < width(); k++) {
            flags[k] = dots[k][r];
            sum += flags[k] ? 1 : 0;
        }
        cards[c] = flags;
        return sum;
    }

    private long blank(int c, int sort, int n) {
        fault = 0;
        if (noCard(c)) {
            return UNKNOWN;
        }
        if (sort < 0 || sort > 3 || n > 32) {
            return OUTSIDE;
        }
        if (n < 0) {
            return faulted(4);
        }
        Object[] made = {new byte[n], new char[n], new short[n], new boolean[n]};
        cards[c] = made[sort];
        return 1;
    }

    private long put(int c, int i, int v) {
        fault = 0;
        if (noCard(c)) {
            return UNKNOWN;
        }
        if (cards[c] == null) {
            return faulted(1);
        }
        if (i < 0 || i >= length(cards[c])) {
            return faulted(3);
        }
        if (cards[c] instanceof byte[] bytes) {
            bytes[i] = (byte) v;
        } else if (cards[c] instanceof char[] chars) {
            chars[i] = (char) v;
        } else if (cards[c] instanceof short[] shorts) {
            shorts[i] = (short) v;
        } else {
            ((boolean[]) cards[c])[i] = v != 0;
        }
        return 1;
    }

    private long get(int c, int i) {
        fault = 0;
        if (noCard(c)) {
            return LOST;
        }
        if (cards[c] == null) {
            fault = 1;
            return LOST;
        }
        if (i < 0 || i >= length(cards[c])) {
            fault = 3;
            return LOST;
        }
        return number(cards[c], i);
    }

    // The machine's own answers: in a test they may be caught.
    private long copy(int c, int i, int other, int j, int n) {
        fault = 0;
        if (noCard(c) || noCard(other)) {
            return UNKNOWN;
        }
        try {
            System.arraycopy(cards[c], i, cards[other], j, n);
            return n;
        } catch (NullPointerException e) {
            return faulted(1);
        } catch (ArrayStoreException e) {
            return faulted(2);
        } catch (IndexOutOfBoundsException e) {
            return faulted(3);
        }
    }

    private long lose(int c) {
        if (noCard(c)) {
            return UNKNOWN;
        }
        int had = cards[c] == null ? 0 : 1;
        cards[c] = null;
        return had;
    }

    private static int nearest(int above, int below) {
        return (int) Math.floor((double) above / below + 0.5);
    }

    private static int shiftOf(int axis, int s, int k) {
        return nearest(axis == 0 ? s * k : s * (31 - k), 16);
    }

    private long shift(int axis, int s, int k) {
        if (noShear(axis, s)) {
            return OUTSIDE;
        }
        return (axis == 0 ? noColumn(k) : noRow(k)) ? UNKNOWN : shiftOf(axis, s, k);
    }

    private TreeMap<Integer, Integer> profiles(int axis, int s) {
        TreeMap<Integer, Integer> counts = new TreeMap<>();
        for (int k = 0; k < width(); k++) {
            for (int r = 0; r < 32; r++) {
                if (dots[k][r]) {
                    counts.merge(axis == 0 ? r - shiftOf(0, s, k) : k - shiftOf(1, s, r), 1, Integer::sum);
                }
            }
        }
        return counts;
    }

    private long profile(int axis, int s, int i) {
        return noShear(axis, s) || i < -99 || i > 99 ? OUTSIDE : profiles(axis, s).getOrDefault(i, 0);
    }

    private int sharpness(int axis, int s) {
        TreeMap<Integer, Integer> counts = profiles(axis, s);
        int sum = 0;
        for (int i = -99; i <= 99; i++) {
            int step = counts.getOrDefault(i, 0) - counts.getOrDefault(i - 1, 0);
            sum += step * step;
        }
        return sum;
    }

    private static List<Integer> allShears() {
        List<Integer> all = new ArrayList<>();
        for (int s = -16; s <= 16; s++) {
            all.add(s);
        }
        return all;
    }

    /** Goes from 0 away, the lesser side first: only a sharper shear takes the place of one before. */
    private int bestOf(int axis, List<Integer> some) {
        int best = 99;
        int greatest = -1;
        for (int near = 0; near <= 16; near++) {
            for (int s : new int[] {-near, near}) {
                int sharpness = some.contains(s) ? sharpness(axis, s) : -1;
                if (sharpness > greatest) {
                    best = s;
                    greatest = sharpness;
                }
            }
        }
        return best;
    }

    private List<Integer> searched(int axis) {
        List<Integer> tried = new ArrayList<>(List.of(-16, -8, 0, 8, 16));
        for (int step : new int[] {4, 2, 1}) {
            int best = bestOf(axis, tried);
            for (int s : new int[] {best - step, best + step}) {
                if (s >= -16 && s <= 16 && !tried.contains(s)) {
                    tried.add(s);
                }
            }
        }
        return tried;
    }

    private long tried(int axis, int k) {
        if (noAxis(axis) || k < 0 || k > 32) {
            return OUTSIDE;
        }
        List<Integer> tried = searched(axis);
        return k < tried.size() ? tried.get(k) + 100 : NONE;
    }

    private interface Way {
        int[] to(int k, int r);
    }

    private long move(Way way) {
        boolean[][] then = new boolean[width()][32];
        int moved = 0;
        for (int k = 0; k < width(); k++) {
            for (int r = 0; r < 32; r++) {
                if (dots[k][r]) {
                    int[] to = way.to(k, r);
                    if (noColumn(to[0]) || noRow(to[1])) {
                        return STATE;
                    }
                    then[to[0]][to[1]] = true;
                    moved += to[0] != k || to[1] != r ? 1 : 0;
                }
            }
        }
        moves.addLast(dots);
        if (moves.size() > 8) {
            moves.removeFirst();
        }
        dots = then;
        return moved;
    }

    private long shear(int axis, int s) {
        if (noShear(axis, s)) {
            return OUTSIDE;
        }
        return move((k, r) -> axis == 0
            ? new int[] {k, r - shiftOf(0, s, k)}
            : new int[] {k - shiftOf(1, s, r), r});
    }

    /** Row, first column, dots of each run. */
    private List<int[]> runs() {
        List<int[]> runs = new ArrayList<>();
        for (int r = 0; r < 32; r++) {
            for (int k = 0; k < width(); k++) {
                if (at(k, r) && !at(k - 1, r)) {
                    int n = 1;
                    while (at(k + n, r)) {
                        n++;
                    }
                    runs.add(new int[] {r, k, n});
                }
            }
        }
        return runs;
    }

    /** The stroke of each dot, by flooding from the first dot of each in reading order. */
    private int[][] flooded() {
        int[][] strokes = new int[width()][32];
        for (int[] column : strokes) {
            Arrays.fill(column, -1);
        }
        int next = 0;
        for (int r = 0; r < 32; r++) {
            for (int k = 0; k < width(); k++) {
                if (at(k, r) && strokes[k][r] < 0) {
                    flood(strokes, k, r, next++);
                }
            }
        }
        return strokes;
    }

    private void flood(int[][] strokes, int k, int r, int number) {
        Deque<int[]> open = new ArrayDeque<>();
        open.add(new int[] {k, r});
        strokes[k][r] = number;
        while (!open.isEmpty()) {
            int[] from = open.remove();
            for (int a = from[0] - 1; a <= from[0] + 1; a++) {
                for (int b = from[1] - 1; b <= from[1] + 1; b++) {
                    if (at(a, b) && strokes[a][b] < 0) {
                        strokes[a][b] = number;
                        open.add(new int[] {a, b});
                    }
                }
            }
        }
    }

    private long run(int k, int what) {
        List<int[]> runs = runs();
        if (k < 0 || k >= runs.size()) {
            return UNKNOWN;
        }
        if (what < 0 || what > 3) {
            return OUTSIDE;
        }
        int[] run = runs.get(k);
        return what < 3 ? run[what] : flooded()[run[1]][run[0]];
    }

    private int strokeCount() {
        int most = -1;
        for (int[] column : flooded()) {
            most = Math.max(most, Arrays.stream(column).max().getAsInt());
        }
        return most + 1;
    }

    private long stroke(int number, int what) {
        if (number < 0 || number >= strokeCount()) {
            return UNKNOWN;
        }
        if (what < 0 || what > 5) {
            return OUTSIDE;
        }
        int[][] strokes = flooded();
        int count = 0, top = 99, bottom = -1, left = 99, right = -1;
        for (int k = 0; k < width(); k++) {
            for (int r = 0; r < 32; r++) {
                if (strokes[k][r] == number) {
                    count++;
                    top = Math.min(top, r);
                    bottom = Math.max(bottom, r);
                    left = Math.min(left, k);
                    right = Math.max(right, k);
                }
            }
        }
        int runs = (int) runs().stream().filter(run -> strokes[run[1]][run[0]] == number).count();
        return new int[] {count, runs, top, bottom, left, right}[what];
    }

    private boolean isFoot(int k, int r) {
        return at(k, r) && !at(k, r + 1);
    }

    /** Whether a chain of n columns begins at a place: the rows that can be come to, column by column. */
    private boolean goesOn(int k, int r, int n) {
        if (!isFoot(k, r)) {
            return false;
        }
        boolean[] reached = new boolean[32];
        reached[r] = true;
        for (int step = 1; step < n; step++) {
            boolean[] then = new boolean[32];
            for (int b = 0; b < 32; b++) {
                boolean near = reached[b] || b > 0 && reached[b - 1] || b < 31 && reached[b + 1];
                then[b] = near && isFoot(k + step, b);
            }
            reached = then;
        }
        for (boolean one : reached) {
            if (one) {
                return true;
            }
        }
        return false;
    }

    /** First column, then the rows; empty without dots. */
    private List<Integer> chain() {
        for (int n = width(); n > 0; n--) {
            for (int k = 0; k + n <= width(); k++) {
                for (int r = 31; r >= 0; r--) {
                    if (goesOn(k, r, n)) {
                        return followed(k, r, n);
                    }
                }
            }
        }
        return List.of();
    }

    private List<Integer> followed(int first, int row, int n) {
        List<Integer> chain = new ArrayList<>(List.of(first, row));
        int r = row;
        for (int step = 1; step < n; step++) {
            int next = r + 1;
            while (noRow(next) || !goesOn(first + step, next, n - step)) {
                next--;
            }
            chain.add(next);
            r = next;
        }
        return chain;
    }

    private static List<Integer> rowsOf(List<Integer> chain) {
        return chain.subList(1, chain.size());
    }

    private static int sum(List<Integer> numbers) {
        return numbers.stream().mapToInt(Integer::intValue).sum();
    }

    private int height() {
        List<Integer> rows = rowsOf(chain());
        return nearest(sum(rows), rows.size());
    }

    private long baseline(int what) {
        if (what < 0 || what > 2) {
            return OUTSIDE;
        }
        List<Integer> chain = chain();
        if (chain.isEmpty()) {
            return NONE;
        }
        return what == 0 ? chain.get(0) : what == 1 ? chain.size() - 1 : height();
    }

    private long foot(int k) {
        if (noColumn(k)) {
            return UNKNOWN;
        }
        List<Integer> chain = chain();
        if (chain.isEmpty() || k < chain.get(0) || k - chain.get(0) >= chain.size() - 1) {
            return NONE;
        }
        return chain.get(k - chain.get(0) + 1);
    }

    private int curlOf(List<Integer> chain, int height, int k) {
        int at = k;
        while (at < chain.get(0)) {
            at++;
        }
        while (at > chain.get(0) + chain.size() - 2) {
            at--;
        }
        return chain.get(at - chain.get(0) + 1) - height;
    }

    private long curl(int k) {
        if (noColumn(k)) {
            return UNKNOWN;
        }
        return chain().isEmpty() ? STATE : curlOf(chain(), height(), k) + 100;
    }

    private double mean() {
        List<Integer> rows = rowsOf(chain());
        return (double) sum(rows) / rows.size();
    }

    private long slope() {
        List<Integer> chain = chain();
        int n = chain.size() - 1;
        if (n < 2) {
            return STATE;
        }
        int sumK = 0, sumR = 0, sumKK = 0, sumKR = 0;
        for (int i = 0; i < n; i++) {
            int k = chain.get(0) + i;
            int r = chain.get(i + 1);
            sumK += k;
            sumR += r;
            sumKK += k * k;
            sumKR += k * r;
        }
        int above = n * sumKR - sumK * sumR;
        // Both are whole numbers that a float holds as they are, so that it rounds just once.
        return above == 0 ? 0 : Float.floatToIntBits((float) above / (float) (n * sumKK - sumK * sumK));
    }

    private long level() {
        List<Integer> chain = chain();
        if (chain.isEmpty()) {
            return STATE;
        }
        int height = height();
        return move((k, r) -> new int[] {k, r - curlOf(chain, height, k)});
    }

    private long back() {
        if (moves.isEmpty()) {
            return STATE;
        }
        dots = moves.removeLast();
        return moves.size();
    }

    private long many(int what) {
        switch (what) {
            case 0: return width();
            case 1: return ink();
            case 2: return runs().size();
            case 3: return strokeCount();
            case 4: return feet();
            case 5: return moves.size();
            case 6: return Arrays.stream(cards).filter(card -> card != null).count();
            default: return OUTSIDE;
        }
    }

    private int feet() {
        int sum = 0;
        for (int k = 0; k < width(); k++) {
            for (int r = 0; r < 32; r++) {
                sum += isFoot(k, r) ? 1 : 0;
            }
        }
        return sum;
    }
}
