/** "Terms", what a game's text may be: each bound just inside, at it, and just beyond it. */
public final class TermsOfGameTest {
    private static final String[] NAMES = {"a", "b", "c"};

    private final Check check = new Check();

    public static void main(String[] args) {
        new TermsOfGameTest().run();
    }

    private void run() {
        parts();
        guards();
        branches();
        signs();
        names();
        variablesOnce();
        onlyVariables();
        oneOrTwoDigits();
        zerosInFront();
        digitsAsFarAsThereAreAny();
        most();
        begins();
        weight();
        weightsTogether();
        commands();
        branchesInEach();
        testsInAGuard();
        itemsInASum();
        updatedOnce();
        check.end();
    }

    /** So many times the same, with something between. */
    private static String times(int count, String part, String between) {
        StringBuilder text = new StringBuilder();
        for (int k = 0; k < count; k++) {
            text.append(k == 0 ? "" : between).append(part);
        }
        return text.toString();
    }

    private void parts() {
        check.sentence("game = variable* command* '!' guard");
        check.dueGame("!1=1", 0);
        check.dueGame("a1:0;!1=1", 0);
        check.dueGame("a1:0;b1:0;!1=1", 0);
        check.dueGame("a1:0;b1:0;c1:0;!1=1", 0);
        check.dueGame("+1=1?1;!1=1", 1);
        check.dueGame("a1:0;+1=1?1;-1=1?1;!1=1", 2);
        check.dueNoGame("~");
        check.dueNoGame("a1:0;~");
        check.dueNoGame("+1=1?1;~");
        check.dueNoGame("!~");
        check.dueNoGame("+1=1?1;~a1:0;!1=1");
        check.dueNoGame("!1=1~!1=1");
        check.dueNoGame("!1=1~;");
        check.dueNoGame("!1=1~a1:0;");
        check.dueNoGame("~1=1");
    }

    private void guards() {
        check.sentence("guard = test ('&' test)*, test = sum ('<'|'>'|'='|'#') sum, sum = item (('+'|'-') item)*");
        for (String sign : new String[] {"<", ">", "=", "#"}) {
            check.dueGame("!1" + sign + "1", 0);
            check.dueNoGame("!~" + sign + "1");
            check.dueNoGame("!1" + sign + "~");
            check.dueNoGame("!1" + sign + "~" + sign + "1");
            check.dueNoGame("!1" + sign + "1~" + sign + "1");
        }
        check.dueNoGame("!1~");
        check.dueNoGame("!1~&1=1");
        check.dueNoGame("!1=1&~");
        check.dueNoGame("!1=1&~&1=1");
        check.dueNoGame("!~&1=1");
        check.dueNoGame("!~-1=1");
        check.dueNoGame("!1+~=1");
        check.dueNoGame("!1+~-1=1");
        check.dueNoGame("!1=1-~");
        check.dueNoGame("+~?1;!1=1");
    }

    private void branches() {
        check.sentence("branch = NUMBER [ ':' update (',' update)* ], update = NAME '=' sum");
        check.dueGame("a1:0;+1=1?1;!1=1", 1);
        check.dueGame("a1:0;+1=1?1:a=0;!1=1", 1);
        check.dueGame("a1:0;b1:0;+1=1?1:b=0,a=0|1;!1=1", 1);
        check.dueNoGame("a1:0;+1=1?~;!1=1");
        check.dueNoGame("a1:0;+1=1?~:a=0;!1=1");
        check.dueNoGame("a1:0;+1=1?1:~;!1=1");
        check.dueNoGame("a1:0;+1=1?1:~1=0;!1=1");
        check.dueNoGame("a1:0;+1=1?1:a~;!1=1");
        check.dueNoGame("a1:0;+1=1?1:a~#0;!1=1");
        check.dueNoGame("a1:0;+1=1?1:a=~;!1=1");
        check.dueNoGame("a1:0;+1=1?1:a=0,~;!1=1");
        check.dueNoGame("a1:0;+1=1?1:a=0,~|1;!1=1");
        check.dueNoGame("a1:0;+1=1?1~,a=0;!1=1");
        check.dueNoGame("a1:0;+1=1?1|~;!1=1");
        check.dueNoGame("a1:0;+1=1?1~!1=1");
    }

    private void signs() {
        check.sentence("variable = NAME NUMBER ':' NUMBER ';', command = ('+'|'-') guard '?' branch ('|' branch)* ';'");
        String digits = "0123456789";
        dueOnly("", "abc+-!");
        dueOnly("a", "123456789");
        dueOnly("a1", ":");
        dueOnly("a1:", "01");
        dueOnly("a1:0", ";");
        dueOnly("a1:0;", "bc+-!");
        dueOnly("a1:0;b1:0;c1:0;", "+-!");
        dueOnly("a1:0;+", "a" + digits);
        dueOnly("a1:0;+a", "<>=#+-");
        dueOnly("a1:0;+a+a+a+a", "<>=#");
        dueOnly("a1:0;+a=", "a" + digits);
        dueOnly("a1:0;+a=a", "?&+-");
        dueOnly("a1:0;+a=a+a+a+a", "?&");
        dueOnly("a1:0;+a=a&", "a" + digits);
        dueOnly("a1:0;+a=a&a=a&a=a&a=a", "?+-");
        dueOnly("a1:0;+a=a?", "123456");
        dueOnly("a1:0;+a=a?1", ":|;");
        dueOnly("a1:0;+a=a?1|", "12345");
        dueOnly("a1:0;+a=a?1|1|1|1", ":;");
        dueOnly("a1:0;+a=a?1:", "a");
        dueOnly("a1:0;+a=a?1:a", "=");
        dueOnly("a1:0;+a=a?1:a=", "a" + digits);
        dueOnly("a1:0;+a=a?1:a=a", ",|;+-");
        dueOnly("a1:0;+a=a?1:a=a+a+a+a", ",|;");
        dueOnly("a1:0;b1:0;+a=a?1:a=a,", "b");
        dueOnly("a1:0;+a=a?1;", "+-!");
        dueOnly(times(10, "+1=1?1;", ""), "!");
        dueOnly("a1:0;!", "a" + digits);
        dueOnly("a1:0;!a", "<>=#+-");
        dueOnly("a1:0;!a=a", "&+-");
        dueOnly("a1:0;!a=a+a+a+a", "&");
        dueOnly("a1:0;!a=a&a=a&a=a&a=a+a+a+a", "");
    }

    /** Behind such a beginning only these can stand, none of which ends a game yet. */
    private void dueOnly(String before, String can) {
        boolean inNumber = !before.isEmpty() && Character.isDigit(before.charAt(before.length() - 1));
        for (char character = 33; character < 126; character++) {
            if (can.indexOf(character) >= 0) {
                check.dueNoGame(before + character + "~");
            } else if (!inNumber || !Character.isDigit(character)) {
                check.dueNoGame(before + "~" + character);
            }
        }
    }

    private void names() {
        check.sentence("NAMES are a, b, c");
        for (String name : NAMES) {
            check.dueGame(name + "1:0;+" + name + "=0?1:" + name + "=1;!" + name + "=1", 1);
        }
        for (String name : new String[] {"`", "d", "A", "C", "_", "z"}) {
            check.dueNoGame("~" + name + "1:0;!1=1");
            check.dueNoGame("a1:0;!~" + name + "=1");
            check.dueNoGame("a1:0;!a=~" + name);
            check.dueNoGame("a1:0;+1=1?1:~" + name + "=1;!1=1");
            check.dueNoGame("a1:0;+1=1?1:a=~" + name + ";!1=1");
        }
    }

    private void variablesOnce() {
        check.sentence("each is a VARIABLE at most once");
        for (String name : NAMES) {
            check.dueNoGame(name + "1:0;~" + name + "1:0;!1=1");
            for (String other : NAMES) {
                if (!other.equals(name)) {
                    check.dueGame(name + "1:0;" + other + "1:0;!1=1", 0);
                    check.dueNoGame(name + "1:0;" + other + "1:0;~" + name + "2:0;!1=1");
                }
            }
            check.dueGame("b1:0;a1:0;c1:0;!1=1", 0);
            check.dueNoGame("b1:0;a1:0;c1:0;~" + name + "1:0;!1=1");
        }
    }

    private void onlyVariables() {
        check.sentence("in sums and updates only those stand that are variables");
        for (String name : NAMES) {
            for (String other : NAMES) {
                String wrong = other.equals(name) ? "" : "~";
                due("~".equals(wrong), name + "1:0;!" + wrong + other + "=1", 0);
                due("~".equals(wrong), name + "1:0;!1=0+" + wrong + other, 0);
                due("~".equals(wrong), name + "1:0;+" + wrong + other + "=1?1;!1=1", 1);
                due("~".equals(wrong), name + "1:0;+1=1?1:" + wrong + other + "=1;!1=1", 1);
                due("~".equals(wrong), name + "1:0;+1=1?1:" + name + "=1-" + wrong + other + ";!1=1", 1);
            }
            check.dueNoGame("!~" + name + "=1");
            check.dueNoGame("+1=1?1:~" + name + "=1;!1=1");
        }
    }

    private void due(boolean isWrong, String text, int commands) {
        if (isWrong) {
            check.dueNoGame(text);
        } else {
            check.dueGame(text, commands);
        }
    }

    private void oneOrTwoDigits() {
        check.sentence("NUMBERS have one or two digits");
        for (String number : new String[] {"0", "1", "9", "10", "11", "98", "99"}) {
            check.dueGame("!" + number + "=" + number, 0);
            check.dueGame("a1:0;+a+" + number + "<" + number + "?1:a=" + number + ";!a=a-" + number, 1);
        }
        // The last but two are 1, and the last 0, for who counts in 32 or 64 bits.
        String[] tooLong = {"100", "101", "999", "1000", "4294967297", "18446744073709551617", "4294967296",
            times(90, "9", ""), times(90, "0", "")};
        for (String number : tooLong) {
            check.dueNoGame("!~" + number + "=1");
            check.dueNoGame("!1=~" + number);
            check.dueNoGame("!1=1-~" + number);
            check.dueNoGame("a~" + number + ":0;!1=1");
            check.dueNoGame("a1:~" + number + ";!1=1");
            check.dueNoGame("a1:0;+1=1?~" + number + ";!1=1");
            check.dueNoGame("a1:0;+1=1?1:a=~" + number + ";!1=1");
        }
        check.dueNoGame("!~=1");
        check.dueNoGame("!1=~");
    }

    private void zerosInFront() {
        check.sentence("without zeros in front (0 itself is 0)");
        check.dueGame("!0=0", 0);
        check.dueGame("!10=0", 0);
        check.dueGame("a1:0;+0=0?1:a=0;!0+0=0", 1);
        check.due("0 is 0", Check.solved("a9:0;!a=0").target(0), true);
        for (String number : new String[] {"00", "01", "09", "000", "010", "001"}) {
            check.dueNoGame("!~" + number + "=1");
            check.dueNoGame("!1=~" + number);
            check.dueNoGame("a~" + number + ":0;!1=1");
            check.dueNoGame("a1:~" + number + ";!1=1");
            check.dueNoGame("a1:0;+1=1?~" + number + ";!1=1");
            check.dueNoGame("a1:0;+1=1?1:a=~" + number + ";!1=1");
        }
    }

    private void digitsAsFarAsThereAreAny() {
        check.sentence("digits are read as far as there are any");
        check.due("12 is twelve", Check.solved("!12=6+6").target(0), true);
        check.due("99 is one below 100", Check.solved("!99+1=50+50").target(0), true);
        check.due("10 is not 1", Check.solved("!10=1").target(0), false);
        check.dueNoGame("!1=~123");
        check.dueNoGame("+1=1?~11;!1=1");
        check.dueNoGame("a~11:0;!1=1");
        check.dueNoGame("a1:~11;!1=1");
        check.dueNoGame("!12~a=1");
    }

    private void most() {
        check.sentence("A variable's first NUMBER, 1 .. 9, is its MOST");
        for (int most = 0; most <= 99; most++) {
            for (String name : NAMES) {
                due(most < 1 || most > 9, name + (most < 1 || most > 9 ? "~" : "") + most + ":0;!1=1", 0);
            }
        }
        for (int most = 1; most <= 9; most++) {
            for (int v = 0; v < 3; v++) {
                ChanceGame x = Check.solved((NAMES[v] + most + ":0;+A=0?1:A=99;!1=0").replace("A", NAMES[v]));
                check.due("the greatest value of " + NAMES[v] + most, x.variable(1, v), most);
            }
        }
    }

    private void begins() {
        check.sentence("the second, 0 .. its most, is what it begins with");
        for (int most = 1; most <= 9; most++) {
            for (int first = 0; first <= 11; first++) {
                String text = "a" + most + ":" + (first > most ? "~" : "") + first + ";!1=1";
                due(first > most, text, 0);
                due(first > most, "b9:9;" + text.replace('a', 'c'), 0);
                if (first <= most) {
                    check.due("a of " + text, Check.solved(text).variable(0, 0), first);
                    check.due("c of " + text, Check.solved(text.replace('a', 'c')).variable(0, 2), first);
                }
            }
        }
    }

    private void weight() {
        check.sentence("A branch begins with its WEIGHT, 1 .. 6");
        for (int weight = 0; weight <= 99; weight++) {
            boolean isWrong = weight < 1 || weight > 6;
            due(isWrong, "-1=1?" + (isWrong ? "~" : "") + weight + ";!1=0", 1);
            if (!isWrong) {
                check.due("weight " + weight, Check.solved("-1=1?" + weight + ";!1=0").branch(0, 0, 0), weight);
            }
        }
        check.dueNoGame("-1=1?1|~0;!1=0");
        check.dueNoGame("-1=1?~-1;!1=0");
    }

    /** All of up to four weights: the first that makes more than six together is wrong. */
    private void weightsTogether() {
        check.sentence("those of a command are at most 6 together");
        for (int count = 1; count <= 4; count++) {
            int all = (int) Math.pow(6, count);
            for (int k = 0; k < all; k++) {
                StringBuilder text = new StringBuilder("+1=1?");
                int together = 0;
                int rest = k;
                boolean isWrong = false;
                for (int b = 0; b < count; b++) {
                    int weight = 1 + rest % 6;
                    rest /= 6;
                    together += weight;
                    text.append(b == 0 ? "" : "|").append(together > 6 && !isWrong ? "~" : "").append(weight);
                    isWrong |= together > 6;
                }
                due(isWrong, text.append(";!1=0").toString(), 1);
            }
        }
        // Those of one command alone, not of the game.
        check.dueGame("+1=1?6;+1=1?3|3;-1=1?1|2|3;-1=1?1|1|1|3;!1=0", 4);
        check.dueNoGame("+1=1?6;+1=1?3|~4;!1=0");
    }

    private void commands() {
        check.sentence("There are at most 10 commands");
        for (String command : new String[] {"+1=1?1;", "-1=1?1;"}) {
            for (int count = 0; count <= 10; count++) {
                check.dueGame(times(count, command, "") + "!1=1", count);
            }
            check.dueNoGame(times(10, command, "") + "~" + command + "!1=1");
            check.dueNoGame(times(10, command, "") + "~" + times(2, command, "") + "!1=1");
            check.dueNoGame(times(10, command, "") + "~" + command.charAt(0));
        }
        check.dueNoGame(times(5, "+1=1?1;-1=1?1;", "") + "~-1=1?1;!1=1");
        check.due("the tenth counts", Check.solved("a1:0;" + times(9, "+a=1?1;", "") + "+a=0?1:a=1;!a=1").choice(0, 0), 9);
    }

    private void branchesInEach() {
        check.sentence("4 branches in each");
        for (int count = 1; count <= 4; count++) {
            check.dueGame("+1=1?" + times(count, "1", "|") + ";!1=1", 1);
            check.dueGame("+1=1?1;-1=1?" + times(count, "1", "|") + ";!1=1", 2);
        }
        check.dueNoGame("+1=1?1|1|1|1~|1;!1=1");
        check.dueNoGame("+1=1?1|1|1|1~|1|1;!1=1");
        check.dueNoGame("+1=1?1|1|1|1~|");
        check.dueNoGame("+1=1?1|1|1|1;-1=1?1|1|1|1~|1;!1=1");
        check.dueNoGame("a1:0;+1=1?1:a=0|1:a=1|1|1:a=0~|1:a=1;!1=1");
        check.due("the fourth counts", Check.solved("a9:0;+a=0?1:a=1|1:a=2|1:a=3|3:a=4;!a=9").branch(0, 0, 3), 43);
    }

    private void testsInAGuard() {
        check.sentence("4 tests in a guard");
        for (int count = 1; count <= 4; count++) {
            String guard = times(count, "1=1", "&");
            check.dueGame("+" + guard + "?1;-" + guard + "?1;!" + guard, 2);
        }
        String full = times(4, "1=1", "&");
        check.dueNoGame("+" + full + "~&1=1?1;!1=1");
        check.dueNoGame("+1=1?1;-" + full + "~&1=1?1;!1=1");
        check.dueNoGame("!" + full + "~&1=1");
        check.dueNoGame("!" + full + "~&");
        check.dueNoGame("!" + full + "~&1=1&1=1");
    }

    private void itemsInASum() {
        check.sentence("4 items in a sum");
        for (String sign : new String[] {"+", "-"}) {
            for (String item : new String[] {"1", "99", "a"}) {
                for (int count = 1; count <= 4; count++) {
                    String sum = times(count, item, sign);
                    check.dueGame("a1:0;+" + sum + "=" + sum + "?1:a=" + sum + ";!" + sum + "<" + sum, 1);
                }
                String full = times(4, item, sign);
                String more = full + "~" + sign + item;
                check.dueNoGame("a1:0;+" + more + "=1?1;!1=1");
                check.dueNoGame("a1:0;+1=" + more + "?1;!1=1");
                check.dueNoGame("a1:0;+1=1?1:a=" + more + ";!1=1");
                check.dueNoGame("a1:0;!" + more + "=1");
                check.dueNoGame("a1:0;!1=" + more);
                check.dueNoGame("a1:0;!" + full + "=" + more);
                check.dueNoGame("a1:0;!1=" + full + "~" + sign);
                check.dueNoGame("a1:0;!1=" + more + sign + item);
            }
        }
        check.dueNoGame("!1+1-1+1~-1=1");
    }

    private void updatedOnce() {
        check.sentence("a branch updates a variable at most once");
        String three = "a1:0;b1:0;c1:0;";
        for (String x : NAMES) {
            check.dueGame(three + "+1=1?1:" + x + "=1;!1=1", 1);
            check.dueNoGame(three + "+1=1?1:" + x + "=1,~" + x + "=1;!1=1");
            check.dueGame(three + "+1=1?1:" + x + "=1|1:" + x + "=0;-1=1?1:" + x + "=1;!1=1", 2);
            for (String y : NAMES) {
                String z = "abc".replace(x, "").replace(y, "");
                if (!y.equals(x)) {
                    check.dueGame(three + "+1=1?1:" + x + "=1," + y + "=1;!1=1", 1);
                    check.dueNoGame(three + "+1=1?1:" + x + "=1," + y + "=1,~" + x + "=1;!1=1");
                    check.dueNoGame(three + "+1=1?1:" + x + "=1," + y + "=1,~" + y + "=1;!1=1");
                    String all = three + "+1=1?1:" + x + "=1," + y + "=1," + z + "=1";
                    check.dueGame(all + ";!1=1", 1);
                    check.dueNoGame(all + ",~" + x + "=1;!1=1");
                    check.dueNoGame(all + ",~" + z + "=1;!1=1");
                }
            }
        }
        check.dueNoGame("b1:0;+1=1?1:b=0,~b=0;!1=1");
    }
}
