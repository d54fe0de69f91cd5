/** The pasts of the refused calls are what they say: no call of them is refused itself, but for what is told. */
public final class PastsTest {
    public static void main(String[] args) {
        goesWell("BUSY", Pasts.BUSY).due("many(5)", 8).due("many(6)", 3)
            .columns(0, 1 << 29, 0, (1 << 8) + (1 << 10), 0, 1 << 19)
            .numbers(0, 10, 0, -32768, 13, 0, 32767).numbers(1, 20, 0, 0, 23).numbers(2);
        goesWell("FULL", Pasts.FULL).due("many(1)", 768).due("many(5)", 2);
        goesWell("AT_TOP", Pasts.AT_TOP).due("many(5)", 2).columns(1 << 9, 0, 0, 0, 0, 1);
        goesWell("AT_BOTTOM", Pasts.AT_BOTTOM).due("many(5)", 2).columns(1 << 9, 0, 0, 0, 0, 1L << 31);
        goesWell("BENT_AT_TOP", Pasts.BENT_AT_TOP).due("many(5)", 2).columns(1 + (1 << 8), 1 << 7, 1 << 6, 1 << 5);
        goesWell("BENT_AT_BOTTOM", Pasts.BENT_AT_BOTTOM).due("many(5)", 2)
            .columns((1L << 31) + (1 << 8), 1 << 9, 1 << 10, 1 << 11);
        Due.end();
    }

    private static Asked goesWell(String name, String[] past) {
        Asked x = new Asked(name);
        for (String call : past) {
            Due.holds(name + ": " + call + " is not refused", x.ask(call) >= 0);
        }
        return x;
    }
}
