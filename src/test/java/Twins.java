import java.util.ArrayList;
import java.util.List;

/** A refused call changes nothing: of two objects with one past only one is asked it, and both answer the same then. */
final class Twins {
    /** The call names no FAULTS, so that fault() tells what it told ahead of it. */
    static final int STAYS = -1;
    /** Calls behind which fault() tells something; the twins come to each of them last, to see it change or stay. */
    private static final String[] AHEAD = {"fault()", "blank(0, 0, -1)", "put(3, 0, 0)", "put(0, LEAST, 0)"};

    private final String about;
    private final String[] past;

    Twins(String about, String... past) {
        this.about = about;
        this.past = past;
    }

    /** The call answers 'want'; fault() then tells 'fault', or what it told before, if that STAYS. */
    Twins refused(String call, long want, int fault) {
        for (String ahead : AHEAD) {
            String told = about + ": " + call + " behind " + ahead;
            Asked one = new Asked(told).after(past).after(ahead);
            Asked other = new Asked(told).after(past).after(ahead);
            one.due(call, want);
            long before = other.ask("fault()");
            one.due("fault()", fault == STAYS ? before : fault);
            List<String> questions = questions();
            for (String question : questions) {
                one.due(question, other.ask(question));
            }
        }
        return this;
    }

    /** Refused for each of these numbers, which come in the place of '?'. */
    Twins refusedFor(String call, long want, int fault, String... numbers) {
        for (String number : numbers) {
            refused(call.replace("?", number), want, fault);
        }
        return this;
    }

    /** All that can be told of an object; what changes it comes behind what would be changed. */
    private static List<String> questions() {
        List<String> all = new ArrayList<>();
        for (int what = 0; what < 7; what++) {
            all.add("many(" + what + ")");
        }
        addColumns(all);
        for (int card = 0; card < 4; card++) {
            addCard(all, card);
        }
        for (int move = 0; move < 9; move++) {
            all.add("back()");
            addColumns(all);
        }
        return all;
    }

    private static void addColumns(List<String> all) {
        for (int k = 0; k < 24; k++) {
            all.add("column(" + k + ")");
        }
    }

    private static void addCard(List<String> all, int card) {
        for (int i = 0; i <= 32; i++) {
            all.add("get(" + card + ", " + i + ")");
        }
        all.add("fault()");
        // Each sort cuts this number to another one.
        all.add("put(" + card + ", 0, 98432)");
        all.add("get(" + card + ", 0)");
        for (int other = 0; other < card; other++) {
            all.add("copy(" + card + ", 0, " + other + ", 0, 0)");
        }
    }
}
