import java.lang.management.ManagementFactory;
import java.util.ArrayList;
import java.util.List;

/** "An object is used for at most 512 calls after it has been made": up to the last one each answer is as due. */
public final class CallsTest {
    private static final int CALLS = 512;
    private static final int NONE = ChanceGame.NONE;

    private final Check check = new Check();
    private final List<Check.Call> calls = new ArrayList<>();
    private ChanceGame x;
    private int made;

    public static void main(String[] args) {
        new CallsTest().run();
    }

    private void run() {
        check.sentence("An object is used for at most 512 calls after it has been made");
        addCalls();
        everyKindLast();
        onlySolved();
        onlyWrongTexts();
        onlyTyped();
        onlyRefused();
        check.sentence("All calls of one run live in one room");
        littleIsMade();
        check.end();
    }

    /** A round that ends as it began: with a game and its states, and without a text. */
    private void addCalls() {
        addGame("a5:2;+a>0&a<5?1:a=a+1|1:a=a-1;!a=5", 1);
        calls.add(() -> due("solve", x.solve(), 6));
        calls.add(() -> due("states", x.states(), 6));
        calls.add(() -> due("variable", x.variable(5, 0), 5));
        calls.add(() -> due("target", x.target(5), true));
        calls.add(() -> due("owner", x.owner(0), 1));
        calls.add(() -> due("choice", x.choice(0, 0), 0));
        calls.add(() -> due("branch", x.branch(0, 0, 1), 21));
        calls.add(() -> due("upper", x.upper(0), 2));
        calls.add(() -> due("lower", x.lower(0), 5));
        calls.add(() -> due("good", x.good(0), 0));
        calls.add(() -> dueThrow("upper 6", IndexOutOfBoundsException.class, () -> x.upper(6)));
        addGame("+1=1?1;-1=1?1;!1=0", 2);
        calls.add(() -> dueThrow("lower", IllegalStateException.class, () -> x.lower(0)));
        calls.add(() -> due("solve mixed", x.solve(), ChanceGame.MIXED));
        calls.add(() -> due("mixed", x.mixed(), 0));
        calls.add(() -> due("type wrong", x.type(' ', 1), NONE));
        calls.add(() -> due("type", x.type('!', 1), 1));
        calls.add(() -> dueThrow("read", IllegalArgumentException.class, x::read));
        calls.add(() -> due("place", x.place(), 1));
        calls.add(() -> due("wipe", x.wipe(), 1));
    }

    private void addGame(String text, int commands) {
        for (int from = 0; from < text.length(); from += 8) {
            int to = Math.min(text.length(), from + 8);
            long part = Check.packed(text.substring(from, to));
            int n = to - from;
            calls.add(() -> due("type", x.type(part, n), to));
        }
        calls.add(() -> due("read", x.read(), commands));
    }

    private void due(String what, long got, long want) {
        made++;
        check.due("call " + made + ": " + what, got, want);
    }

    private void due(String what, boolean got, boolean want) {
        due(what, got ? 1 : 0, want ? 1 : 0);
    }

    private void dueThrow(String what, Class<? extends RuntimeException> want, Check.Call call) {
        made++;
        check.dueThrow("call " + made + ": " + what, want, call);
    }

    private void begin() {
        x = new ChanceGame();
        made = 0;
    }

    /** Some calls before the first round, one more each time: so each call of the round is once the last. */
    private void everyKindLast() {
        for (int before = 0; before < calls.size(); before++) {
            begin();
            for (int k = 0; k < before; k++) {
                due("place", x.place(), NONE);
            }
            for (int k = 0; made < CALLS; k++) {
                calls.get(k % calls.size()).run();
            }
        }
    }

    private void onlySolved() {
        begin();
        due("type", x.type(Check.packed("-1=1?6;!"), 8), 8);
        due("type", x.type(Check.packed("1=0"), 3), 11);
        due("read", x.read(), 1);
        while (made < CALLS) {
            due("solve", x.solve(), 1);
        }
    }

    private void onlyWrongTexts() {
        begin();
        due("type", x.type(Check.packed("!1=1!"), 5), 5);
        while (made < CALLS - 1) {
            dueThrow("read", IllegalArgumentException.class, x::read);
        }
        due("place", x.place(), 4);
    }

    /** Far more than 200 characters, in all. */
    private void onlyTyped() {
        begin();
        while (made < CALLS) {
            for (int k = 1; k <= 25 && made < CALLS; k++) {
                due("type", x.type(Check.packed("!1=1!1=1"), 8), 8 * k);
            }
            if (made < CALLS) {
                due("wipe", x.wipe(), 200);
            }
        }
    }

    private void onlyRefused() {
        begin();
        while (made < CALLS) {
            dueThrow("solve", IllegalStateException.class, x::solve);
        }
        begin();
        while (made < CALLS) {
            due("type", x.type(-1, 8), NONE);
        }
    }

    /** Rows are made with the object and used again, so that many runs find room. */
    private void littleIsMade() {
        long before = bytesMade();
        x = new ChanceGame();
        check.due("bytes of a new object are some 40,000 at most", bytesMade() - before < 40000, true);
        String text = "a7:0;+a=0?1;+a=0?5|1:a=a+1;-a>0&a<6?3:a=a+1|1:a=0;-a=6?1:a=0|1:a=99;!a=7";
        Check.type(x, text);
        x.read();
        before = bytesMade();
        for (int k = 0; k < 100; k++) {
            x.solve();
        }
        check.due("a hundred times solve makes nothing", bytesMade() - before < 10000, true);
        long[] parts = new long[9];
        for (int k = 0; k < 9; k++) {
            parts[k] = Check.packed(text.substring(8 * k, 8 * k + 8));
        }
        before = bytesMade();
        for (int round = 0; round < 20; round++) {
            for (int k = 0; k < 9; k++) {
                x.type(parts[k], 8);
            }
            x.read();
        }
        check.due("twenty times read makes nothing", bytesMade() - before < 10000, true);
    }

    private static long bytesMade() {
        return ((com.sun.management.ThreadMXBean) ManagementFactory.getThreadMXBean()).getCurrentThreadAllocatedBytes();
    }
}
