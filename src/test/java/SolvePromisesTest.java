/** Promises 6 to 16, sentence by sentence: what is found and answered, what is NONE, and what is thrown. */
public final class SolvePromisesTest {
    private static final int NONE = ChanceGame.NONE;
    private static final int[] FAR = {-1000, Integer.MIN_VALUE, Integer.MIN_VALUE + 1, 1000, Integer.MAX_VALUE};

    private final Check check = new Check();

    public static void main(String[] args) {
        new SolvePromisesTest().run();
    }

    private void run() {
        solve();
        solveMixedOrMany();
        solveRefused();
        states();
        mixed();
        variable();
        target();
        owner();
        choice();
        choiceOfMixed();
        branch();
        branchNone();
        askingDoesNothing();
        noValues();
        noSuchState();
        valuesOfTheLastState();
        lowerAboveZero();
        goodNone();
        check.end();
    }

    private void solve() {
        check.sentence("Promise 6: Finds the states, and their values and good choices: how many states there are");
        for (int most = 1; most <= 7; most++) {
            ChanceGame x = Check.withGame("a" + most + ":0;+a<" + most + "?1:a=a+1;!a=" + most);
            check.due("solve to " + most, x.solve(), most + 1);
            String once = Seen.of(x);
            check.due("solve again to " + most, x.solve(), most + 1);
            check.due("the same again to " + most, Seen.of(x), once);
            check.due("a value to " + most, x.upper(most), 1);
        }
        ChanceGame x = Check.withGame("!1=1");
        check.due("one state", x.solve(), 1);
        Check.type(x, "!1=0");
        check.due("solve finds the game, not the text", x.solve(), 1);
        check.due("of the game", x.target(0), true);
        check.due("the text stays", x.wipe(), 4);
    }

    private void solveMixedOrMany() {
        check.sentence("Promise 6: MIXED or MANY, and then there are only those found so far, without values");
        ChanceGame x = Check.solved(Games.SMALL);
        Check.type(x, Games.MIXED_AT_1);
        x.read();
        check.due("mixed", x.solve(), ChanceGame.MIXED);
        check.due("what was found", Seen.of(x), "states 3 mixed 1\n"
            + "0 is 0 -1 -1 owner 1 value IllegalStateException command 0: 11 21\n"
            + "1 is 1 -1 -1 owner 1 value IllegalStateException command 1: command 2: 1\n"
            + "2 is 2 -1 -1 owner -1 value IllegalStateException\n"
            + "3 is -1 -1 -1 owner -1 value IllegalStateException\n");
        Check.type(x, Games.TOO_MANY);
        x.read();
        check.due("many", x.solve(), ChanceGame.MANY);
        check.due("many again", x.solve(), ChanceGame.MANY);
        check.due("states", x.states(), 8);
        check.due("mixed", x.mixed(), NONE);
        check.dueThrow("upper", IllegalStateException.class, () -> x.upper(7));
        Check.type(x, Games.SMALL);
        x.read();
        check.due("all well again", x.solve(), 3);
        check.due("with values", Seen.of(x), Seen.of(Check.solved(Games.SMALL)));
    }

    private void solveRefused() {
        check.sentence("Promise 6: IllegalStateException when there is no game");
        ChanceGame x = new ChanceGame();
        check.dueThrow("new", IllegalStateException.class, x::solve);
        Check.type(x, "!1=1");
        check.dueThrow("typed, not read", IllegalStateException.class, x::solve);
        check.due("nothing was found", x.states(), 0);
        check.due("no place", x.place(), NONE);
        check.due("the text stays", x.type('?', 1), 5);
        check.dueThrow("read", IllegalArgumentException.class, x::read);
        check.dueThrow("no game was read", IllegalStateException.class, x::solve);
        check.due("the place stays", x.place(), 4);
        check.due("wipe", x.wipe(), 5);
        check.dueThrow("wiped", IllegalStateException.class, x::solve);
        check.dueThrow("no values either", IllegalStateException.class, () -> x.upper(0));
        Check.type(x, "!1=1");
        check.due("read at last", x.read(), 0);
        check.due("solve at last", x.solve(), 1);
    }

    private void states() {
        check.sentence("Promise 7: How many states were found latest; 0 when there is nothing found.");
        ChanceGame x = new ChanceGame();
        check.due("new", x.states(), 0);
        check.dueThrow("solve", IllegalStateException.class, x::solve);
        check.due("refused", x.states(), 0);
        int[] counts = {3, 3, 8, 1, 8};
        String[] texts = {Games.SMALL, Games.MIXED_AT_1, Games.TOO_MANY, "!1=1", "a7:0;+1=1?1:a=a+1;!a=8"};
        for (int k = 0; k < texts.length; k++) {
            Check.type(x, texts[k]);
            x.read();
            check.due("read, not solved " + texts[k], x.states(), 0);
            x.solve();
            check.due("solved " + texts[k], x.states(), counts[k]);
            check.due("reads", Check.reads(x, "?"), false);
            check.due("a refused text changes nothing " + texts[k], x.states(), counts[k]);
        }
    }

    private void mixed() {
        check.sentence("Promise 8: The state that was mixed; NONE when there was none.");
        ChanceGame x = new ChanceGame();
        check.due("new", x.mixed(), NONE);
        Check.type(x, Games.MIXED_AT_1);
        x.read();
        check.due("not solved", x.mixed(), NONE);
        x.solve();
        check.due("mixed", x.mixed(), 1);
        check.due("reads", Check.reads(x, "?"), false);
        check.due("stays behind a refused text", x.mixed(), 1);
        check.due("reads", Check.reads(x, Games.TOO_MANY), true);
        check.due("a new game", x.mixed(), NONE);
        x.solve();
        check.due("many", x.mixed(), NONE);
        check.due("reads", Check.reads(x, Games.MIXED_AT_1), true);
        x.solve();
        x.solve();
        check.due("mixed, solved twice", x.mixed(), 1);
        check.due("reads", Check.reads(x, Games.SMALL), true);
        x.solve();
        check.due("solved", x.mixed(), NONE);
        check.due("the first", solvedMixed("+1=1?1;-1=1?1;!1=0"), 0);
        check.due("the eighth", solvedMixed("a9:0;-1=1?1:a=a+1;+a=7?1;!a=9"), 7);
    }

    private static int solvedMixed(String text) {
        return Check.solved(text).mixed();
    }

    private void variable() {
        check.sentence("Promise 9: The value of variable v (0 a, 1 b, 2 c) in state i. NONE when there is no such state or variable.");
        ChanceGame x = Check.solved("a9:1;b9:5;c9:9;+a<9?1:a=9,b=0,c=3;!a=9");
        int[][] values = {{1, 5, 9}, {9, 0, 3}};
        for (int i = -1; i <= 2; i++) {
            for (int v = -1; v <= 3; v++) {
                boolean is = i >= 0 && i < 2 && v >= 0 && v < 3;
                check.due("variable " + i + " " + v, x.variable(i, v), is ? values[i][v] : NONE);
            }
        }
        for (int far : FAR) {
            check.due("state " + far, x.variable(far, 0), NONE);
            check.due("variable " + far, x.variable(0, far), NONE);
            check.due("both " + far, x.variable(far, far), NONE);
        }
        for (int v = 0; v < 3; v++) {
            String name = String.valueOf((char) ('a' + v));
            ChanceGame one = Check.solved(name + "4:3;!1=1");
            for (int w = 0; w < 3; w++) {
                check.due("of " + name + " alone: " + w, one.variable(0, w), w == v ? 3 : NONE);
            }
        }
        ChanceGame many = Check.solved(Games.TOO_MANY);
        check.due("the eighth", many.variable(7, 0), 7);
        check.due("no ninth", many.variable(8, 0), NONE);
    }

    private void target() {
        check.sentence("Promise 10: Whether state i is in the target.");
        ChanceGame x = Check.solved(Games.SMALL);
        for (int i = -1; i <= 3; i++) {
            check.due("target " + i, x.target(i), i == 2);
        }
        ChanceGame all = Check.solved("a7:0;+a<7?1:a=7;!a=7");
        for (int far : new int[] {-1, 2, 31, 32, 33, 64, Integer.MIN_VALUE, Integer.MAX_VALUE}) {
            check.due("no such state " + far, all.target(far), false);
        }
        check.due("the eighth", Check.solved("a7:0;+1=1?1:a=a+1;!a=7").target(7), true);
        check.due("one that was not looked at",
            Check.solved("a5:0;+a=0?1:a=1|1:a=2;+a=1?1;-a=1?1;!a=2").target(2), true);
        check.due("not when nothing is found", Check.withGame("!1=1").target(0), false);
    }

    private void owner() {
        check.sentence("Promise 11: 1 when it has choices of MAX (of a mixed state, too), 0 when of MIN alone");
        ChanceGame x = Check.solved(Games.SMALL);
        check.due("MAX", x.owner(0), 1);
        check.due("MIN", x.owner(1), 0);
        check.due("mixed, MAX first", Check.solved("+1=1?1;-1=1?1;!1=0").owner(0), 1);
        check.due("mixed, MIN first", Check.solved("-1=1?1;-1=1?1;+1=1?1;!1=0").owner(0), 1);
        check.sentence("Promise 11: NONE when it has none, or there is no such state");
        check.due("the target", x.owner(2), NONE);
        check.due("no command", Check.solved("!1=0").owner(0), NONE);
        check.due("no guard holds", Check.solved("+1=0?1;-1=0?1;!1=0").owner(0), NONE);
        check.due("not looked at", Check.solved(Games.MIXED_AT_1).owner(2), NONE);
        check.due("below", x.owner(-1), NONE);
        check.due("above", x.owner(3), NONE);
        for (int far : FAR) {
            check.due("far " + far, x.owner(far), NONE);
        }
    }

    private void choice() {
        check.sentence("Promise 12: Choice k of state i, from 0: the number of the command, from 0. NONE when there is none.");
        ChanceGame x = Check.solved(Games.SMALL);
        int[][] choices = {{NONE, 0, 2, NONE}, {NONE, 1, NONE, NONE}, {NONE, NONE, NONE, NONE}};
        for (int i = -1; i <= 3; i++) {
            for (int k = -1; k <= 2; k++) {
                boolean is = i >= 0 && i < 3;
                check.due("choice " + i + " " + k, x.choice(i, k), is ? choices[i][k + 1] : NONE);
            }
            for (int far : FAR) {
                check.due("choice " + i + " " + far, x.choice(i, far), NONE);
                check.due("choice of state " + far, x.choice(far, i), NONE);
            }
        }
        ChanceGame ten = Check.solved("-1=1?1;".repeat(10) + "!1=0");
        for (int k = -1; k <= 11; k++) {
            check.due("of ten: " + k, ten.choice(0, k), k < 10 ? k : NONE);
        }
        check.due("nothing is found", Check.withGame(Games.SMALL).choice(0, 0), NONE);
    }

    private void choiceOfMixed() {
        check.sentence("Promise 12: (Of a mixed state, of both.)");
        ChanceGame x = Check.solved("a1:0;-a=0?1;+a=1?1;+a=0?1;-a=1?1;-a=0?1;!a=9");
        int[] choices = {0, 2, 4, NONE};
        for (int k = 0; k < 4; k++) {
            check.due("choice " + k, x.choice(0, k), choices[k]);
        }
        ChanceGame ten = Check.solved("-1=1?1;+1=1?1;".repeat(5) + "!1=0");
        check.due("the tenth of both", ten.choice(0, 9), 9);
        check.due("no more", ten.choice(0, 10), NONE);
    }

    private void branch() {
        check.sentence("Promise 13: What comes of branch b of command c in state i: 10 times the state's number, and the weight.");
        ChanceGame x = Check.solved(Games.SMALL);
        check.due("branch 0 0 0", x.branch(0, 0, 0), 1);
        check.due("branch 0 0 1", x.branch(0, 0, 1), 12);
        check.due("branch 0 2 0", x.branch(0, 2, 0), 11);
        check.due("branch 1 1 0", x.branch(1, 1, 0), 3);
        check.due("branch 1 1 1", x.branch(1, 1, 1), 21);
        ChanceGame far = Check.solved("a7:0;+a<7?1:a=a+1;+a=7?6;!a=8");
        check.due("the greatest answer", far.branch(7, 1, 0), 76);
        check.due("to the last state", far.branch(6, 0, 0), 71);
        ChanceGame last = Check.solved("a9:0;" + "+a=9?1;".repeat(9) + "+a=0?1:a=1|1:a=2|1:a=3|3:a=4;!a=4");
        check.due("the last branch of the last command", last.branch(0, 9, 3), 43);
    }

    private void branchNone() {
        check.sentence("Promise 13: NONE when there is none such");
        ChanceGame x = Check.solved(Games.SMALL);
        for (int k : new int[] {-1, 3, 4, 10, -1000, 1000, Integer.MIN_VALUE, Integer.MAX_VALUE}) {
            check.due("state " + k, x.branch(k, 0, 0), NONE);
            check.due("command " + k, x.branch(0, k, 0), NONE);
            check.due("branch " + k, x.branch(0, 0, k), NONE);
            check.due("all " + k, x.branch(k, k, k), NONE);
        }
        check.due("one branch more of the first command", x.branch(0, 0, 2), NONE);
        check.due("one branch more of the third", x.branch(0, 2, 1), NONE);
        check.due("one below", x.branch(0, 2, -1), NONE);
        check.due("a fifth of four", Check.solved("+1=1?1|1|1|1;+1=1?2;!1=0").branch(0, 0, 4), NONE);
        check.due("an eleventh of ten", Check.solved("+1=1?1;".repeat(10) + "!1=0").branch(0, 10, 0), NONE);
        check.due("nothing is found", Check.withGame(Games.SMALL).branch(0, 0, 0), NONE);
        check.sentence("Promise 13: the command is not enabled there");
        check.due("of MIN in MAX's", x.branch(0, 1, 0), NONE);
        check.due("of MAX in MIN's", x.branch(1, 0, 0), NONE);
        check.due("in the target, where its guard does hold", Check.solved("+1=1?1;!1=1").branch(0, 0, 0), NONE);
        check.sentence("Promise 13: or what comes was not found");
        ChanceGame many = Check.solved(Games.TOO_MANY);
        check.due("the eighth", many.branch(6, 0, 0), 72);
        check.due("the ninth", many.branch(7, 0, 0), NONE);
        check.due("back to the first", many.branch(7, 0, 1), 1);
        ChanceGame mixed = Check.solved(Games.MIXED_AT_1);
        check.due("of a mixed state", mixed.branch(1, 1, 0), NONE);
        check.due("of a mixed state, what was found before", mixed.branch(1, 2, 0), 1);
    }

    private void askingDoesNothing() {
        check.sentence("Promises 7 to 13: what is asked for and is none changes nothing");
        for (String text : new String[] {Games.SMALL, Games.MIXED_AT_1, Games.TOO_MANY}) {
            ChanceGame x = Check.solved(text);
            x.type('!', 1);
            String before = Seen.of(x);
            for (int k : new int[] {-1, 8, 10, Integer.MIN_VALUE, Integer.MAX_VALUE}) {
                x.variable(k, 0);
                x.variable(0, k);
                x.target(k);
                x.owner(k);
                x.choice(k, 0);
                x.choice(0, k);
                x.branch(k, 0, 0);
                x.branch(0, k, 0);
                x.branch(0, 0, k);
            }
            check.due("what was found of " + text, Seen.of(x), before);
            check.due("the text stays", x.wipe(), 1);
            check.due("no place", x.place(), NONE);
        }
    }

    private void noValues() {
        check.sentence("Promises 14 to 16: IllegalStateException when there are no values");
        dueNoValues("new", new ChanceGame());
        dueNoValues("not solved", Check.withGame(Games.SMALL));
        dueNoValues("mixed", Check.solved(Games.MIXED_AT_1));
        dueNoValues("many", Check.solved(Games.TOO_MANY));
        ChanceGame x = Check.solved(Games.SMALL);
        Check.type(x, Games.SMALL);
        x.read();
        dueNoValues("a new game", x);
    }

    /** Of no state at all: that there are no values is said first. */
    private void dueNoValues(String what, ChanceGame x) {
        String before = Seen.of(x);
        for (int i : new int[] {0, 1, 7, 8, -1, Integer.MIN_VALUE, Integer.MAX_VALUE}) {
            check.dueThrow(what + ": upper " + i, IllegalStateException.class, () -> x.upper(i));
            check.dueThrow(what + ": lower " + i, IllegalStateException.class, () -> x.lower(i));
            check.dueThrow(what + ": good " + i, IllegalStateException.class, () -> x.good(i));
        }
        check.due(what + ": nothing was done", Seen.of(x), before);
    }

    private void noSuchState() {
        check.sentence("Promises 14 to 16: IndexOutOfBoundsException when there is no such state");
        for (String text : new String[] {Games.SMALL, "!1=1", "a7:0;+1=1?1:a=a+1;!a=7"}) {
            ChanceGame x = Check.solved(text);
            String before = Seen.of(x);
            for (int i : new int[] {-1, x.states(), x.states() + 1, 8, 9, Integer.MIN_VALUE, Integer.MAX_VALUE}) {
                check.dueThrow("upper " + i, IndexOutOfBoundsException.class, () -> x.upper(i));
                check.dueThrow("lower " + i, IndexOutOfBoundsException.class, () -> x.lower(i));
                check.dueThrow("good " + i, IndexOutOfBoundsException.class, () -> x.good(i));
            }
            check.due("nothing was done", Seen.of(x), before);
        }
    }

    private void valuesOfTheLastState() {
        check.sentence("Promise 14: The value of state i: its upper number.");
        // Six tosses of 2 to 1: the target is missed with 64 of 729.
        ChanceGame x = Check.solved("a7:0;-a<6?2:a=a+1|1:a=7;!a=7");
        check.due("there are 8", x.states(), 8);
        check.due("the first: upper", x.upper(0), 665);
        check.due("the first: lower", x.lower(0), 729);
        check.due("the target: upper", x.upper(2), 1);
        check.due("the eighth: upper", x.upper(7), 0);
        check.due("the eighth: lower", x.lower(7), 1);
    }

    private void lowerAboveZero() {
        check.sentence("Promise 15: Its lower number, above 0.");
        check.due("of 0", Check.solved("!1=0").lower(0), 1);
        check.due("of 1", Check.solved("!1=1").lower(0), 1);
        check.due("of a state for ever", Check.solved("+1=1?1;!1=0").lower(0), 1);
        check.due("of a half", Check.solved("a2:0;-a=0?3:a=1|3:a=2;!a=2").lower(0), 2);
    }

    private void goodNone() {
        check.sentence("Promise 16: the number of the command; NONE when it has no choices");
        ChanceGame x = Check.solved(Games.SMALL);
        check.due("MAX's", x.good(0), 0);
        check.due("MIN's", x.good(1), 1);
        check.due("the target's", x.good(2), NONE);
        check.due("no commands", Check.solved("!1=0").good(0), NONE);
        check.due("no guard holds", Check.solved("+1=0?1;!1=0").good(0), NONE);
        check.due("the tenth", Check.solved("a2:0;" + "+a=0?1;".repeat(9) + "+a=0?1:a=1;!a=1").good(0), 9);
    }
}
