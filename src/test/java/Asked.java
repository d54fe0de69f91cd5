import java.lang.reflect.Method;
import java.lang.reflect.Modifier;
import java.util.HashMap;
import java.util.Map;

/** An object that is asked by calls written as the document writes them; no more of them than it promises. */
final class Asked {
    private static final int MOST_CALLS = 512;
    private static final Map<String, Method> CALLS = calls();

    private final LevelledInk ink = new LevelledInk();
    private final String about;
    private int made = 0;

    /** What is told of a wrong answer begins with 'about': the promise's number and the sentence that it breaks. */
    Asked(String about) {
        this.about = about;
    }

    private static Map<String, Method> calls() {
        Map<String, Method> calls = new HashMap<>();
        for (Method method : LevelledInk.class.getDeclaredMethods()) {
            if (Modifier.isPublic(method.getModifiers())) {
                calls.put(method.getName(), method);
            }
        }
        return calls;
    }

    /** Calls whose answers are not looked at. */
    Asked after(String... calls) {
        for (String call : calls) {
            ask(call);
        }
        return this;
    }

    Asked due(String call, long want) {
        Due.due(about + ": " + call, ask(call), want);
        return this;
    }

    /** LEAST and GREATEST in a call are those of all ints. */
    long ask(String call) {
        made++;
        if (made > MOST_CALLS) {
            throw new IllegalStateException(about + ": a test of what is not promised: call " + made);
        }
        int open = call.indexOf('(');
        Method method = CALLS.get(call.substring(0, open));
        Object[] arguments = new Object[method.getParameterCount()];
        String inside = call.substring(open + 1, call.length() - 1);
        String[] texts = inside.isEmpty() ? new String[0] : inside.split(", *");
        if (texts.length != arguments.length) {
            throw new IllegalStateException(about + ": " + call + " has not as many numbers as it takes");
        }
        for (int i = 0; i < arguments.length; i++) {
            arguments[i] = number(texts[i]);
        }
        try {
            return ((Number) method.invoke(ink, arguments)).longValue();
        } catch (ReflectiveOperationException e) {
            throw new IllegalStateException(about + ": " + call + " did not answer", e);
        }
    }

    private static int number(String text) {
        switch (text) {
            case "LEAST": return Integer.MIN_VALUE;
            case "GREATEST": return Integer.MAX_VALUE;
            default: return Integer.parseInt(text);
        }
    }

    /** A page as wide as its first text, with a dot for each '#'; the first text is row 'top'. */
    Asked drawn(int top, String... rows) {
        after("page(" + rows[0].length() + ")");
        for (int r = 0; r < rows.length; r++) {
            for (int k = 0; k < rows[r].length(); k++) {
                if (rows[r].charAt(k) == '#') {
                    after("dot(" + k + ", " + (top + r) + ", 1)");
                }
            }
        }
        return this;
    }

    /** All dots of the rows from..to, each 'step' rows, as CARD 0 has it afterwards: 1 in each 'gap'-th column. */
    Asked filled(int from, int to, int step, int gap) {
        after("blank(0, 3, 24)");
        for (int k = 0; k < 24; k += gap) {
            after("put(0, " + k + ", 1)");
        }
        for (int r = from; r <= to; r += step) {
            after("row(" + r + ", 0)");
        }
        return after("lose(0)");
    }

    /** Every place of the page has a dot. */
    Asked full() {
        return filled(0, 31, 1, 1);
    }

    /** The columns from 0 on; there is no further one. */
    Asked columns(long... sets) {
        for (int k = 0; k < sets.length; k++) {
            due("column(" + k + ")", sets[k]);
        }
        return due("column(" + sets.length + ")", LevelledInk.LOST);
    }

    /** The numbers of a card from 0 on; there is no further one. */
    Asked numbers(int card, long... numbers) {
        for (int i = 0; i < numbers.length; i++) {
            due("get(" + card + ", " + i + ")", numbers[i]);
        }
        return due("get(" + card + ", " + numbers.length + ")", LevelledInk.LOST).due("fault()", 3);
    }
}
