/** Promises 6 (solve) to 13 (branch): what is found, in whole games, mixed ones and too large ones. */
public final class FindTest {
    private static final int NONE = ChanceGame.NONE;

    public static void main(String[] args) {
        Check check = new Check();
        order(check);
        comparisons(check);
        tooManyInTheMidst(check);
        mixed(check);
        mixedLoop(check);
        noVariables(check);
        namesOutOfOrder(check);
        check.end();
    }

    private static void dueState(Check check, ChanceGame x, int i, int... values) {
        for (int v = 0; v < values.length; v++) {
            check.due("variable " + v + " of state " + i, x.variable(i, v), values[v]);
        }
    }

    /** By commands first, then by branches; states are looked at by their numbers. */
    private static void order(Check check) {
        ChanceGame x = Check.withGame("a9:0;+a=0?1:a=5|2:a=3;+a=0?1:a=1;-a=5?1:a=3|1:a=2;-a=3?1:a=5|1:a=0;!a=2");
        check.due("solve", x.solve(), 5);
        check.due("states", x.states(), 5);
        int[] values = {0, 5, 3, 1, 2};
        int[] owners = {1, 0, 0, NONE, NONE};
        for (int i = 0; i < 5; i++) {
            dueState(check, x, i, values[i], NONE, NONE);
            check.due("owner " + i, x.owner(i), owners[i]);
            check.due("target " + i, x.target(i), i == 4);
        }
        check.due("choice 0 0", x.choice(0, 0), 0);
        check.due("choice 0 1", x.choice(0, 1), 1);
        check.due("choice 0 2", x.choice(0, 2), NONE);
        check.due("choice 1 0", x.choice(1, 0), 2);
        check.due("choice 1 1", x.choice(1, 1), NONE);
        check.due("choice 2 0", x.choice(2, 0), 3);
        check.due("choice 3 0", x.choice(3, 0), NONE);
        check.due("choice 4 0", x.choice(4, 0), NONE);
        check.due("branch 0 0 0", x.branch(0, 0, 0), 11);
        check.due("branch 0 0 1", x.branch(0, 0, 1), 22);
        check.due("branch 0 1 0", x.branch(0, 1, 0), 31);
        check.due("branch 0 2 0 is not enabled", x.branch(0, 2, 0), NONE);
        check.due("branch 1 2 0", x.branch(1, 2, 0), 21);
        check.due("branch 1 2 1", x.branch(1, 2, 1), 41);
        check.due("branch 2 3 1", x.branch(2, 3, 1), 1);
        check.due("branch 4 0 0", x.branch(4, 0, 0), NONE);
        check.due("mixed", x.mixed(), NONE);
    }

    private static void comparisons(Check check) {
        String[] guards = {"a<3", "a>3", "a=3", "a#3", "a+1-1<4-1", "2+a=a+a-1", "a<4&a>2", "a<4&a>3", "10>9", "a-9<0",
            "1=1&1=1&1=1&a#3", "9-a-a>2", "a+a+a+a=12", "0-a=0-3"};
        for (int a = 0; a <= 9; a++) {
            boolean[] holds = {a < 3, a > 3, a == 3, a != 3, a < 3, a == 3, a == 3, false, true, a < 9,
                a != 3, a < 4 && 9 - 2 * a > 2, a == 3, a == 3};
            for (int g = 0; g < guards.length; g++) {
                ChanceGame asTarget = Check.solved("a9:" + a + ";!" + guards[g]);
                check.due("target " + guards[g] + " for " + a, asTarget.target(0), holds[g]);
                ChanceGame asGuard = Check.solved("a9:" + a + ";-" + guards[g] + "?1;!0=1");
                check.due("owner " + guards[g] + " for " + a, asGuard.owner(0), holds[g] ? 0 : NONE);
            }
        }
    }

    /** State 1 is looked at when it is too many; the states from 2 on were not looked at. */
    private static void tooManyInTheMidst(Check check) {
        ChanceGame x = Check.withGame(
            "a9:0;+a=0?1:a=1|1:a=2|1:a=3|1:a=4;+a=0?1:a=5|1:a=6;-a=1?1:a=0|1:a=7|1:a=8|1:a=2;-a>0?1:a=3|1:a=9;!a=6");
        check.due("solve", x.solve(), ChanceGame.MANY);
        check.due("states", x.states(), 8);
        check.due("state 7", x.variable(7, 0), 7);
        check.due("owner 1", x.owner(1), 0);
        check.due("choice 1 0", x.choice(1, 0), 2);
        check.due("choice 1 1", x.choice(1, 1), 3);
        check.due("owner 2: not looked at", x.owner(2), NONE);
        check.due("choice 2 0: not looked at", x.choice(2, 0), NONE);
        check.due("target 6, though not looked at", x.target(6), true);
        check.due("branch 1 2 0", x.branch(1, 2, 0), 1);
        check.due("branch 1 2 1", x.branch(1, 2, 1), 71);
        check.due("branch 1 2 2 was not found", x.branch(1, 2, 2), NONE);
        // Enabled, and what comes is a state that was found, if not on this way.
        check.due("branch 1 2 3", x.branch(1, 2, 3), 21);
        check.due("branch 1 3 0", x.branch(1, 3, 0), 31);
        check.due("branch 2 3 0", x.branch(2, 3, 0), 31);
        check.due("branch 2 3 1 was not found", x.branch(2, 3, 1), NONE);
        check.due("branch 6 3 0: none is enabled in the target", x.branch(6, 3, 0), NONE);
    }

    private static void mixed(Check check) {
        ChanceGame x = Check.withGame("a9:0;+a=0?1:a=1|1:a=2;-a=1?1:a=3;+a=2?1:a=4;-a=2?1:a=5|1:a=0;-a=2?1;!a=9");
        check.due("solve", x.solve(), ChanceGame.MIXED);
        check.due("mixed", x.mixed(), 2);
        check.due("states", x.states(), 4);
        check.due("owner of a mixed state", x.owner(2), 1);
        check.due("choice 2 0", x.choice(2, 0), 2);
        check.due("choice 2 1", x.choice(2, 1), 3);
        check.due("choice 2 2", x.choice(2, 2), 4);
        check.due("choice 2 3", x.choice(2, 3), NONE);
        check.due("nothing is found from there", x.branch(2, 2, 0), NONE);
        check.due("but this one was found before", x.branch(2, 3, 1), 1);
        check.due("owner 3: not looked at", x.owner(3), NONE);
        check.dueThrow("upper", IllegalStateException.class, () -> x.upper(0));
        check.dueThrow("lower", IllegalStateException.class, () -> x.lower(0));
        check.dueThrow("good", IllegalStateException.class, () -> x.good(0));
        check.due("again", x.solve(), ChanceGame.MIXED);
        check.due("mixed again", x.mixed(), 2);
    }

    private static void mixedLoop(Check check) {
        ChanceGame x = Check.withGame("-1=1?1;+1=1?2;!0=1");
        check.due("solve", x.solve(), ChanceGame.MIXED);
        check.due("mixed", x.mixed(), 0);
        check.due("states", x.states(), 1);
        check.due("branch 0 0 0", x.branch(0, 0, 0), 1);
        check.due("branch 0 1 0", x.branch(0, 1, 0), 2);
    }

    private static void noVariables(Check check) {
        ChanceGame x = Check.withGame("-1=1?2|4;!1=2");
        check.due("solve", x.solve(), 1);
        dueState(check, x, 0, NONE, NONE, NONE);
        check.due("owner", x.owner(0), 0);
        check.due("branch 0 0 0", x.branch(0, 0, 0), 2);
        check.due("branch 0 0 1", x.branch(0, 0, 1), 4);
        check.due("branch 0 0 2", x.branch(0, 0, 2), NONE);
    }

    private static void namesOutOfOrder(Check check) {
        ChanceGame x = Check.solved("c9:7;a5:2;!c=7");
        dueState(check, x, 0, 2, NONE, 7);
        check.due("target", x.target(0), true);
    }
}
