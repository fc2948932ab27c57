/** "Terms", how a game is played: tests, states, updates, the finding, values and good choices at their bounds. */
public final class TermsOfPlayTest {
    private static final int NONE = ChanceGame.NONE;
    private static final String[] NAMES = {"a", "b", "c"};

    private final Check check = new Check();

    public static void main(String[] args) {
        new TermsOfPlayTest().run();
    }

    private void run() {
        tests();
        largestSums();
        allTests();
        firstState();
        target();
        enabled();
        players();
        chances();
        updatesByTheValuesBefore();
        below0();
        aboveItsMost();
        numbered();
        lookedAtByNumber();
        mixedAndThatIsAll();
        mixedFirstAndLast();
        notMixed();
        byOrder();
        ninth();
        ninthByAnyBranch();
        notLookedAt();
        withoutAny();
        value();
        lowestTerms();
        goodOfMax();
        goodOfMin();
        check.end();
    }

    private void tests() {
        check.sentence("A test holds if the sums are as it says (# is \"not equal\")");
        for (int left = 0; left <= 9; left++) {
            for (int right = 0; right <= 9; right++) {
                dueHolds(left, "<", right, left < right);
                dueHolds(left, ">", right, left > right);
                dueHolds(left, "=", right, left == right);
                dueHolds(left, "#", right, left != right);
            }
        }
    }

    private void dueHolds(int left, String sign, int right, boolean holds) {
        ChanceGame x = Check.solved("a9:" + left + ";b9:" + right + ";!a" + sign + "b");
        check.due("target " + left + sign + right, x.target(0), holds);
        x = Check.solved("-" + left + sign + right + "?1;!1=0");
        check.due("owner " + left + sign + right, x.owner(0), holds ? 0 : NONE);
    }

    private void largestSums() {
        check.sentence("A test holds if the sums are as it says: the largest and the least ones");
        String most = "99+99+99+99";
        String least = "0-99-99-99";
        String[][] rows = {{most, most, "="}, {most, "99+99+99+98", ">"}, {"98+99+99+99", most, "<"},
            {least, least, "="}, {least, "0-99-99-98", "<"}, {"1-99-99-99", least, ">"}, {least, most, "<"},
            {most, least, ">"}, {"0-1", "0", "<"}, {"0", "0-1", ">"}, {"1-1", "0", "="}, {"1-2+1", "0", "="},
            {"a+a+a+a", "36", "="}, {"0-a-a-a", "0-27", "="}, {"a-a-a-a", "0-18", "="}, {"a+a+a+a", "35", ">"}};
        for (String[] row : rows) {
            for (String sign : new String[] {"<", ">", "=", "#"}) {
                boolean holds = sign.equals(row[2]) || sign.equals("#") && !row[2].equals("=");
                ChanceGame x = Check.solved("a9:9;!" + row[0] + sign + row[1]);
                check.due(row[0] + sign + row[1], x.target(0), holds);
            }
        }
    }

    private void allTests() {
        check.sentence("a guard if all its tests do");
        for (int count = 1; count <= 4; count++) {
            for (int holding = 0; holding < 1 << count; holding++) {
                StringBuilder guard = new StringBuilder();
                for (int t = 0; t < count; t++) {
                    guard.append(t == 0 ? "" : "&").append((holding >> t & 1) != 0 ? "1=1" : "1=0");
                }
                boolean all = holding == (1 << count) - 1;
                check.due("target " + guard, Check.solved("!" + guard).target(0), all);
                check.due("owner " + guard, Check.solved("+" + guard + "?1;!1=0").owner(0), all ? 1 : NONE);
            }
        }
    }

    private void firstState() {
        check.sentence("The first one has what they begin with");
        for (int value = 0; value <= 9; value++) {
            ChanceGame x = Check.solved("b9:" + (9 - value) + ";c9:" + value + ";+b>0?1:b=b-1;!b#9");
            check.due("a, which is no variable", x.variable(0, 0), NONE);
            check.due("b begins", x.variable(0, 1), 9 - value);
            check.due("c begins", x.variable(0, 2), value);
        }
    }

    private void target() {
        check.sentence("In the TARGET are all states for which the guard behind '!' holds");
        ChanceGame x = Check.solved("a4:0;+a<4?1:a=a+1;!a=9");
        for (int i = 0; i < 5; i++) {
            check.due("no state: " + i, x.target(i), false);
        }
        x = Check.solved("a4:0;b4:0;+a<4?1:a=a+1|1:b=1;!b=1");
        for (int i = 0; i < x.states(); i++) {
            check.due("each with b 1: " + i, x.target(i), x.variable(i, 1) == 1);
        }
        check.due("the first one, too", Check.solved("a4:2;+a<4?1:a=a+1;!a=2").target(0), true);
        check.due("and then it is the only one", Check.solved("a4:2;+a<4?1:a=a+1;!a=2").states(), 1);
    }

    private void enabled() {
        check.sentence("A command is ENABLED in a state that is not in the target, if its guard holds there");
        ChanceGame x = Check.solved("a3:0;+a=0?1:a=1;+a=1?1:a=2;+a<2?1:a=3;!a=1");
        check.due("choice 0 0", x.choice(0, 0), 0);
        check.due("choice 0 1", x.choice(0, 1), 2);
        check.due("choice 0 2", x.choice(0, 2), NONE);
        check.due("state 1 is in the target", x.target(1), true);
        check.due("none in the target", x.choice(1, 0), NONE);
        check.due("no owner in the target", x.owner(1), NONE);
        check.due("no branch in the target", x.branch(1, 1, 0), NONE);
        check.due("no branch without the guard", x.branch(0, 1, 0), NONE);
        check.due("nothing comes of the target", x.states(), 3);
    }

    private void players() {
        check.sentence("'+' are MAX's, '-' MIN's");
        check.due("+", Check.solved("+1=1?1;!1=0").owner(0), 1);
        check.due("-", Check.solved("-1=1?1;!1=0").owner(0), 0);
        check.due("MAX goes to the target", Check.solved("a2:0;+a=0?1:a=1;+a=0?1:a=2;!a=2").upper(0), 1);
        check.due("MIN does not", Check.solved("a2:0;-a=0?1:a=1;-a=0?1:a=2;!a=2").upper(0), 0);
    }

    /** All pairs of weights that a command can have, and the greatest count of branches. */
    private void chances() {
        check.sentence("each with the chance of its weight among all weights of the command");
        for (int one = 1; one <= 5; one++) {
            for (int other = 1; one + other <= 6; other++) {
                ChanceGame x = Check.solved("a2:0;+a=0?" + one + ":a=1|" + other + ":a=2;!a=1");
                check.due(one + " of " + (one + other), x.upper(0) * (one + other), x.lower(0) * one);
            }
            check.due("all of " + one, Check.solved("a2:0;-a=0?" + one + ":a=1;!a=1").upper(0), 1);
        }
        ChanceGame x = Check.solved("a9:0;+a=0?1:a=1|2:a=2|1:a=1|2:a=4;!a=1");
        check.due("two branches to one state: upper", x.upper(0), 1);
        check.due("two branches to one state: lower", x.lower(0), 3);
    }

    private void updatesByTheValuesBefore() {
        check.sentence("each variable that it updates gets its sum, by the values before");
        String[] updates = {"a=b,b=c,c=a", "b=c,c=a,a=b", "c=a,a=b,b=c", "a=b,c=a,b=c"};
        for (String update : updates) {
            ChanceGame x = Check.solved("a9:1;b9:2;c9:3;+a=1?1:" + update + ";!1=0");
            check.due("a by " + update, x.variable(1, 0), 2);
            check.due("b by " + update, x.variable(1, 1), 3);
            check.due("c by " + update, x.variable(1, 2), 1);
        }
        ChanceGame x = Check.solved("a9:1;b9:2;c9:3;+a=1?1:b=a+b+c-0;!1=0");
        check.due("a is not updated", x.variable(1, 0), 1);
        check.due("b gets its sum", x.variable(1, 1), 6);
        check.due("c is not updated", x.variable(1, 2), 3);
        x = Check.solved("a9:9;b9:0;+b=0?1:a=a+9-9,b=1;!1=0");
        check.due("only the whole sum is bounded", x.variable(1, 0), 9);
        x = Check.solved("a9:0;b9:0;+b=0?1:a=a-9+9,b=1;!1=0");
        check.due("only the whole sum is bounded, below", x.variable(1, 0), 0);
    }

    private void below0() {
        check.sentence("below 0 it is 0");
        for (int v = 0; v < 3; v++) {
            dueUpdated(v, 9, 2, "A-1", 1);
            dueUpdated(v, 9, 2, "A-2", 0);
            dueUpdated(v, 9, 2, "A-3", 0);
            dueUpdated(v, 9, 2, "A-99", 0);
            dueUpdated(v, 9, 2, "0-1", 0);
            dueUpdated(v, 9, 9, "0-99-99-99", 0);
            dueUpdated(v, 1, 1, "A-A-A", 0);
        }
    }

    private void aboveItsMost() {
        check.sentence("above its most that");
        for (int v = 0; v < 3; v++) {
            for (int most = 1; most <= 9; most++) {
                dueUpdated(v, most, 0, String.valueOf(most - 1), most - 1);
                dueUpdated(v, most, 0, String.valueOf(most), most);
                dueUpdated(v, most, 0, String.valueOf(most + 1), most);
                dueUpdated(v, most, most, "A+1", most);
                dueUpdated(v, most, 0, "99+99+99+99", most);
            }
        }
        ChanceGame x = Check.solved("a3:3;b9:9;c5:0;+c=0?1:a=b,b=a,c=1;!1=0");
        check.due("by its own most: a", x.variable(1, 0), 3);
        check.due("by its own most: b", x.variable(1, 1), 3);
    }

    /** One more variable counts the step, so that the next state is another one in any case. */
    private void dueUpdated(int v, int most, int first, String sum, int want) {
        String name = NAMES[v];
        String step = NAMES[(v + 1) % 3];
        String text = name + most + ":" + first + ";" + step + "1:0;+" + step + "=0?1:" + name + "="
            + sum.replace("A", name) + "," + step + "=1;!1=0";
        check.due(text, Check.solved(text).variable(1, v), want);
    }

    private void numbered() {
        check.sentence("states are numbered as they are found, the first one 0");
        ChanceGame x = Check.solved("a9:4;+a=4?1:a=9|1:a=0;+a=9?1:a=4|1:a=0|1:a=1;!1=0");
        int[] values = {4, 9, 0, 1};
        check.due("states", x.states(), 4);
        for (int i = 0; i < 4; i++) {
            check.due("a of state " + i, x.variable(i, 0), values[i]);
        }
        check.sentence("is found, if it is new");
        check.due("back to the first", x.branch(1, 1, 0), 1);
        check.due("found from state 0", x.branch(1, 1, 1), 21);
        x = Check.solved("a1:0;b1:0;c1:0;+1=1?1:a=1-a|1:b=1-b|1:c=1-c;!1=0");
        check.due("states that differ in one variable each", x.states(), 8);
    }

    private void lookedAtByNumber() {
        check.sentence("They are looked at by their numbers");
        // State 1 has a 7, and what comes of it is found before what comes of state 2, a 1.
        ChanceGame x = Check.solved("a9:0;+a=0?1:a=7|1:a=1;+a=1?1:a=2;+a=7?1:a=8;!1=0");
        int[] values = {0, 7, 1, 8, 2};
        for (int i = 0; i < 5; i++) {
            check.due("a of state " + i, x.variable(i, 0), values[i]);
        }
    }

    private void mixedAndThatIsAll() {
        check.sentence("if commands of both players are enabled, it is MIXED, and that is all");
        ChanceGame x = Check.withGame("a9:0;+a=0?1:a=1|1:a=2|1:a=3;-a=1?1:a=4;+a>1&a<4?1:a=5;-a>1?1:a=6;!a=9");
        check.due("solve", x.solve(), ChanceGame.MIXED);
        check.due("the first one of two", x.mixed(), 2);
        check.due("nothing found from it", x.states(), 5);
        check.due("what came of state 1", x.variable(4, 0), 4);
        check.due("looked at", x.owner(1), 0);
        check.due("mixed", x.owner(2), 1);
        check.due("the other one was not looked at", x.owner(3), NONE);
        check.due("none of its choices", x.choice(3, 0), NONE);
        check.due("nor of the next", x.choice(4, 0), NONE);
        check.dueThrow("no values", IllegalStateException.class, () -> x.upper(0));
    }

    private void mixedFirstAndLast() {
        check.sentence("it is MIXED: the first state, and the eighth");
        for (String two : new String[] {"+1=1?1;-1=1?1;", "-1=1?1;+1=1?1;"}) {
            ChanceGame x = Check.withGame(two + "!1=0");
            check.due("solve " + two, x.solve(), ChanceGame.MIXED);
            check.due("mixed " + two, x.mixed(), 0);
            check.due("states " + two, x.states(), 1);
        }
        ChanceGame x = Check.withGame("a9:0;+1=1?1:a=a+1;-a=7?1;!a=9");
        check.due("solve", x.solve(), ChanceGame.MIXED);
        check.due("mixed", x.mixed(), 7);
        check.due("states", x.states(), 8);
        x = Check.withGame("a9:0;+1=1?1:a=a+1;-a=8?1;!a=9");
        check.due("the ninth would be", x.solve(), ChanceGame.MANY);
        check.due("no mixed one", x.mixed(), NONE);
        // Ten commands, and only the last one is MIN's.
        x = Check.withGame("+1=1?1;+1=1?1;+1=1?1;+1=1?1;+1=1?1;+1=1?1;+1=1?1;+1=1?1;+1=1?1;-1=1?1;!1=0");
        check.due("nine to one", x.solve(), ChanceGame.MIXED);
    }

    private void notMixed() {
        check.sentence("ENABLED in a state that is not in the target: a target is never mixed");
        check.due("the first", Check.withGame("+1=1?1;-1=1?1;!1=1").solve(), 1);
        check.due("another", Check.withGame("a1:0;+1=1?1:a=1;-a=1?1;!a=1").solve(), 2);
        check.due("one that is not reached", Check.withGame("a3:0;+1=1?1:a=1;-a=2?1;!a=1").solve(), 2);
        check.due("players in turn", Check.withGame("a3:0;+a=0?1:a=1;-a=1?1:a=0;!a=2").solve(), 2);
    }

    private void byOrder() {
        check.sentence("what comes of each enabled command, by their order, of each branch, by theirs");
        ChanceGame x = Check.solved("a9:0;-a=0?1:a=3|1:a=1;-a=9?1:a=8;-a=0?1:a=7|1:a=2|1:a=1|1:a=5;!1=0");
        int[] values = {0, 3, 1, 7, 2, 5};
        check.due("states", x.states(), 6);
        for (int i = 0; i < 6; i++) {
            check.due("a of state " + i, x.variable(i, 0), values[i]);
        }
    }

    private void ninth() {
        check.sentence("If it would be the ninth state, there are too MANY, and that is all");
        for (int most = 6; most <= 9; most++) {
            ChanceGame x = Check.withGame("a" + most + ":0;+1=1?1:a=a+1;!a=99");
            check.due("solve up to " + most, x.solve(), most < 8 ? most + 1 : ChanceGame.MANY);
            check.due("states up to " + most, x.states(), Math.min(most + 1, 8));
            check.due("the last one's a", x.variable(x.states() - 1, 0), Math.min(most, 7));
            check.due("no ninth", x.variable(8, 0), NONE);
            check.due("mixed", x.mixed(), NONE);
        }
        ChanceGame x = Check.withGame("a8:0;+1=1?1:a=a+1;!a=8");
        check.due("too many, though the ninth were the target", x.solve(), ChanceGame.MANY);
        x = Check.withGame("a7:0;+1=1?1:a=a+1;!a=7");
        check.due("not too many with the eighth as target", x.solve(), 8);
    }

    /** The first state has all others: in one place of them it goes one beyond. */
    private void ninthByAnyBranch() {
        check.sentence("If it would be the ninth state: found in any branch of any command");
        String seven = "+a=0?1:a=1|1:a=2|1:a=3|1:a=4;+a=0?1:a=5|1:a=6|1:a=7";
        check.due("seven from one state", Check.withGame("a9:0;" + seven + ";!1=0").solve(), 8);
        check.due("once more one of them", Check.withGame("a9:0;" + seven + "|1:a=7;!1=0").solve(), 8);
        check.due("eight from one state", Check.withGame("a9:0;" + seven + "|1:a=8;!1=0").solve(), ChanceGame.MANY);
        check.due("by one more command", Check.withGame("a9:0;" + seven + ";+a=0?1:a=8;!1=0").solve(), ChanceGame.MANY);
        ChanceGame x = Check.withGame("a9:0;" + seven + ";-a=7?1|1:a=0|1:a=3|1:a=8;!1=0");
        check.due("by the last branch of the last state", x.solve(), ChanceGame.MANY);
        check.due("what came before it", x.branch(7, 2, 2), 31);
        check.due("the ninth", x.branch(7, 2, 3), NONE);
        x = Check.withGame("a9:0;" + seven + "|1:a=8;-a=1?1:a=9;!1=0");
        check.due("and that is all", x.solve(), ChanceGame.MANY);
        check.due("state 1 was not looked at", x.owner(1), NONE);
        check.due("state 0 was", x.owner(0), 1);
    }

    private void notLookedAt() {
        check.sentence("A state's CHOICES are its enabled commands, by their order (none, as long as it was not looked at)");
        ChanceGame x = Check.withGame("a9:0;-a=3?1;+a<9?1:a=a+1|1:a=a+2|1:a=a+3|1:a=a+4;+a<9?1:a=a+5;!1=0");
        check.due("solve", x.solve(), ChanceGame.MIXED);
        check.due("mixed", x.mixed(), 3);
        for (int i = 0; i < x.states(); i++) {
            check.due("choice 0 of " + i, x.choice(i, 0), i < 3 ? 1 : i == 3 ? 0 : NONE);
            check.due("choice 1 of " + i, x.choice(i, 1), i < 3 ? 2 : i == 3 ? 1 : NONE);
            check.due("choice 2 of " + i, x.choice(i, 2), i == 3 ? 2 : NONE);
            check.due("choice 3 of " + i, x.choice(i, 3), NONE);
        }
    }

    private void withoutAny() {
        check.sentence("a state without any ends the game there");
        ChanceGame x = Check.solved("a3:0;+a=0?1:a=1|1:a=2;!a=2");
        check.due("choice", x.choice(1, 0), NONE);
        check.due("owner", x.owner(1), NONE);
        check.due("upper", x.upper(1), 0);
        check.due("lower", x.lower(1), 1);
        check.due("good", x.good(1), NONE);
        check.due("no commands at all", Check.solved("!1=0").upper(0), 0);
    }

    private void value() {
        check.sentence("THE VALUE of a state is the greatest chance with which MAX can have it that the target is reached");
        dueValue("!1=1", 1, 1);
        dueValue("!1=0", 0, 1);
        dueValue("a1:0;+a=0?1;!a=1", 0, 1);
        dueValue("a1:0;-a=0?1;-a=0?1:a=1;!a=1", 0, 1);
        dueValue("a1:0;+a=0?1;+a=0?1:a=1;!a=1", 1, 1);
        dueValue("a1:0;-a=0?5|1:a=1;!a=1", 1, 1);
        dueValue("a7:0;+a<7?1:a=a+1|5:a=0;!a=7", 1, 1);
        // MAX's chance to come nearer is as good as lost when MIN can go back for ever.
        dueValue("a3:0;+a=0?1:a=1|1:a=2;-a=1?1:a=0;-a=1?1:a=2;!a=3", 0, 1);
    }

    private void dueValue(String text, long upper, long lower) {
        ChanceGame x = Check.solved(text);
        check.due("upper of " + text, x.upper(0), upper);
        check.due("lower of " + text, x.lower(0), lower);
    }

    private void lowestTerms() {
        check.sentence("a fraction in its lowest terms");
        dueValue("a2:0;+a=0?3:a=1|3:a=2;!a=1", 1, 2);
        dueValue("a2:0;+a=0?2:a=1|4:a=2;!a=1", 1, 3);
        dueValue("a2:0;+a=0?4:a=1|2:a=2;!a=1", 2, 3);
        dueValue("a2:0;+a=0?2|2:a=1|2:a=2;!a=1", 1, 2);
        dueValue("a7:0;+a<6?5:a=a+1|1:a=7;!a=6", 15625, 46656);
        dueValue("a7:0;+a<6?1:a=a+1|5:a=7;!a=6", 1, 46656);
    }

    private void goodOfMax() {
        check.sentence("THE GOOD CHOICE of a state of MAX: the first of its choices so that the values of all states stay the same");
        dueGood("a2:0;+a=0?1:a=1;+a=0?1:a=1;!a=1", 0, 0);
        dueGood("a2:0;+a=0?1:a=2;+a=0?1:a=1;!a=1", 0, 1);
        dueGood("a2:0;+a=0?1;+a=0?1:a=1;!a=1", 0, 1);
        dueGood("a2:0;+a=0?5|1:a=1;+a=0?1:a=1;!a=1", 0, 0);
        dueGood("a2:0;+a=0?1;+a=0?1:a=2;!a=1", 0, 0);
        check.sentence("and in all states before it only their good choices");
        // State 0 may go round by state 1, and then state 1 may not go round by state 0.
        String round = "a2:0;+a=0?1:a=1;+a=1?1:a=0;+a<2?1:a=2;!a=2";
        dueGood(round, 0, 0);
        dueGood(round, 1, 2);
    }

    private void goodOfMin() {
        check.sentence("Of MIN likewise");
        dueGood("a2:0;-a=0?1:a=1;-a=0?1:a=2;!a=1", 0, 1);
        dueGood("a2:0;-a=0?1;-a=0?1:a=2;!a=1", 0, 0);
        dueGood("a2:0;-a=0?1:a=2;-a=0?1;!a=1", 0, 0);
        dueGood("a2:0;-a=0?1:a=1|1;-a=0?1:a=1;!a=1", 0, 0);
        String round = "a2:0;-a=0?1:a=1;-a=1?1:a=0;-a<2?1:a=2;!a=2";
        dueGood(round, 0, 0);
        dueGood(round, 1, 1);
    }

    private void dueGood(String text, int i, int good) {
        check.due("good " + i + " of " + text, Check.solved(text).good(i), good);
    }
}
