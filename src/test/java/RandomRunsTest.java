import java.lang.reflect.Method;
import java.util.ArrayList;
import java.util.Arrays;
import java.util.Comparator;
import java.util.List;
import java.util.Random;

/** All promises: random runs of 512 calls, each answer against that of PlainInk. The seeds are fixed. */
public final class RandomRunsTest {
    private static final int RUNS = 240, CALLS = 512;
    private static final int[] WILD = {
        Integer.MIN_VALUE, Integer.MIN_VALUE + 1, -100, -33, -17, -2, -1, 0, 1, 2, 3, 4, 5, 6, 7, 16, 17, 23, 24, 25,
        31, 32, 33, 99, 100, 255, 256, 32768, 65535, Integer.MAX_VALUE - 1, Integer.MAX_VALUE,
    };

    public static void main(String[] args) throws ReflectiveOperationException {
        List<Method> calls = calls();
        for (int run = 0; run < RUNS && Due.wrong() == 0; run++) {
            new RandomRunsTest(calls, run).go();
        }
        Due.end();
    }

    private static List<Method> calls() {
        List<Method> calls = new ArrayList<>();
        for (Method method : LevelledInk.class.getDeclaredMethods()) {
            if (java.lang.reflect.Modifier.isPublic(method.getModifiers())) {
                calls.add(method);
            }
        }
        // Reflection tells methods in no order; the runs must be the same each time.
        calls.sort(Comparator.comparing(Method::getName));
        return calls;
    }

    private final List<Method> calls;
    private final Random random;
    private final int run;
    private final LevelledInk ink = new LevelledInk();
    private final PlainInk plain = new PlainInk();
    private int made = 0;

    private RandomRunsTest(List<Method> calls, int run) {
        this.calls = calls;
        this.random = new Random(run);
        this.run = run;
    }

    private void go() throws ReflectiveOperationException {
        draw();
        while (made < CALLS && Due.wrong() == 0) {
            Method method = calls.get(random.nextInt(calls.size()));
            boolean clears = List.of("page", "row").contains(method.getName());
            if (!clears || random.nextInt(6) == 0) {
                ask(method, arguments(method));
            }
        }
    }

    private void draw() throws ReflectiveOperationException {
        ask(named("page"), 1 + random.nextInt(24));
        switch (run % 5) {
            case 0: drawLine(); break;
            case 1: drawLine(); drawSpots(40); break;
            case 2: drawSpots(200); break;
            case 3: drawRows(); break;
            default: drawSpots(12); break;
        }
    }

    private void drawLine() throws ReflectiveOperationException {
        int r = random.nextInt(32);
        for (int k = 0; k < 24; k++) {
            ask(named("dot"), k, r, 1);
            if (random.nextInt(3) == 0) {
                ask(named("dot"), k, r - 1, 1);
            }
            r = Math.max(0, Math.min(31, r + random.nextInt(3) - 1));
        }
    }

    private void drawSpots(int n) throws ReflectiveOperationException {
        for (int i = 0; i < n; i++) {
            ask(named("dot"), random.nextInt(24), random.nextInt(32), 1);
        }
    }

    private void drawRows() throws ReflectiveOperationException {
        ask(named("blank"), 0, random.nextInt(4), 24);
        for (int r = 0; r < 32; r++) {
            for (int i = 0; i < 6; i++) {
                ask(named("put"), 0, random.nextInt(24), random.nextInt(4));
            }
            ask(named("row"), r, 0);
        }
    }

    private Method named(String name) {
        for (Method method : calls) {
            if (method.getName().equals(name)) {
                return method;
            }
        }
        throw new IllegalArgumentException(name);
    }

    private void ask(Method method, int... arguments) throws ReflectiveOperationException {
        if (made >= CALLS) {
            return;
        }
        made++;
        Object[] boxed = Arrays.stream(arguments).boxed().toArray();
        long got = ((Number) method.invoke(ink, boxed)).longValue();
        String call = "run " + run + ", call " + made + ": " + method.getName() + Arrays.toString(arguments);
        Due.due(call, got, plain.answer(method.getName(), arguments));
    }

    private int[] arguments(Method method) {
        int[] arguments = tame(method.getName());
        if (arguments.length > 0 && random.nextInt(12) == 0) {
            arguments[random.nextInt(arguments.length)] = WILD[random.nextInt(WILD.length)];
        }
        return arguments;
    }

    private int upTo(int least, int greatest) {
        return least + random.nextInt(greatest - least + 1);
    }

    private int[] tame(String name) {
        switch (name) {
            case "page": return new int[] {upTo(1, 24)};
            case "dot": return new int[] {upTo(0, 23), upTo(0, 31), upTo(0, 1)};
            case "column": case "foot": case "curl": return new int[] {upTo(0, 23)};
            case "row": return new int[] {upTo(0, 31), upTo(0, 3)};
            case "take": return new int[] {upTo(0, 3), upTo(0, 31)};
            case "blank": return new int[] {upTo(0, 3), upTo(0, 3), upTo(-1, 32)};
            case "put": return new int[] {upTo(0, 3), upTo(0, 31), random.nextInt() >> upTo(0, 31)};
            case "get": return new int[] {upTo(0, 3), upTo(0, 31)};
            case "copy": return new int[] {upTo(0, 3), upTo(0, 20), upTo(0, 3), upTo(0, 20), upTo(0, 16)};
            case "lose": return new int[] {upTo(0, 20)};
            case "shift": return new int[] {upTo(0, 1), upTo(-16, 16), upTo(0, 31)};
            case "profile": return new int[] {upTo(0, 1), upTo(-16, 16), upTo(-31, 54)};
            case "sharp": return new int[] {upTo(0, 1), upTo(-16, 16)};
            case "shear": return new int[] {upTo(0, 1), upTo(-2, 2) * upTo(0, 1) * upTo(0, 8)};
            case "best": case "found": return new int[] {upTo(0, 1)};
            case "tried": return new int[] {upTo(0, 1), upTo(0, 12)};
            case "run": return new int[] {upTo(0, plainCount(2)), upTo(0, 3)};
            case "stroke": return new int[] {upTo(0, plainCount(3)), upTo(0, 5)};
            case "baseline": return new int[] {upTo(0, 2)};
            case "many": return new int[] {upTo(0, 6)};
            default: return new int[0];
        }
    }

    private int plainCount(int what) {
        return (int) plain.answer("many", new int[] {what});
    }
}
