/** Promises 4 (read) and 5 (place). */
public final class ReadTest {
    /** Each with the number of its commands in front. */
    private static final String[] GAMES = {
        "0 !0=0",
        "0 !99>98&10<11&0#1&1=1",
        "0 a9:9;b1:0;c5:3;!a=b",
        "0 c1:1;a2:0;!c+a=1-a+c+99",
        "1 +1=1?1;!0=1",
        "1 a3:1;-a=1?6;!a=1",
        "1 a3:1;-a=1?1:a=a+1-a+99|1|2:a=0|2;!a=1",
        "2 a1:0;b1:0;c1:0;+a=0?1:c=a,a=b,b=c|5:b=0;-b=1?3|3;!a+b+c+0=3-a-b-c",
        "10 +1=1?1;-1=1?1;+1=1?1;-1=1?1;+1=1?1;-1=1?1;+1=1?1;-1=1?1;+1=1?1;-1=1?1;!1=1",
        "1 a1:0;+a=0&a<1&1>a&a#1?1|1|2|2;!a=1&a=1&a=1&a=1",
    };

    /** A ~ stands before the first character that can't stand where it is. */
    private static final String[] NO_GAMES = {
        // where a variable, a command or the target's guard can begin
        "~", "~x", "~d1:0;!1=1", "~A1:0;!1=1", "~?", "~1=1", "~;", "~&", "~:1=1",
        "a1:0;~=1", "a1:0;~1", "a1:0;~", "a1:0;~d1:0;!a=0", "a1:0;~a1:0;!a=0",
        "a1:0;b1:0;~b1:0;!a=0", "a1:0;b1:0;c1:0;~a1:0;!a=0", "a1:0;b1:0;c1:0;~d1:0;!a=0",
        "a1:0;+a=0?1;~b1:0;!a=0", "+1=1?1;~", "+1=1?1;~;", "+1=1?1;~1",
        // a variable
        "a~", "a~:0;!a=0", "a~0:0;!a=0", "a~10:1;!a=0", "a~01:0;!a=0", "a~00:0;!a=0", "a~100:0;!a=0",
        "a~x", "a~-1", "a~a", "a3~", "a3~;", "a3~=1", "a3:~", "a3:~;", "a3:~4;!a=1",
        "a3:~03;!a=1", "a3:~00;!a=1", "a3:~10;!a=1", "a9:~10;!a=1", "a3:~1000;!a=1", "a3:~-1", "a3:1~",
        "a3:1~!a=1", "a3:1~,b3:1;", "a3:1~:", "a~10", "a3:~33333333333333333333",
        // a command's guard
        "+~", "+~?1;", "+~;", "+~a=1?1;!1=1", "a1:0;+~b=1?1;!a=1", "a1:0;+~d=1?1;!a=1", "a1:0;+a~?1;!a=1",
        "a1:0;+a~;", "a1:0;+a~a=1", "a1:0;+a~1=1", "a1:0;+1~a=1", "a1:0;+a~!a", "+1~:1", "+1=~?1;", "+1=~=1",
        "+1=1~=1?1;", "+1=1~;!1=1", "+1=1~", "+1=1~!", "+1=1~|", "+1=1&~?1;", "+1=1&~&", "+1<~>1", "+1~!1",
        "+1=1&1=1&1=1&1=1~&1=1?1;!1=1", "-1+1+1+1~+1=1?1;!1=1", "-1=1-1-1-1~-1?1;!1=1", "+~+1=1", "-~-1=1",
        "+1+~=1", "+1+~+1=1", "+1=~100?1;!1=1", "+~00=1", "+1=~01", "+~007=1",
        // branches
        "+1=1?~", "+1=1?~;", "+1=1?~|1;", "+1=1?~:", "+1=1?~0;!1=1", "+1=1?~7;!1=1", "+1=1?~10;!1=1",
        "+1=1?~01;!1=1", "+1=1?~111;!1=1", "+1=1?~a", "+1=1?~-1", "+1=1?1~", "+1=1?1~!1=1", "+1=1?1~,",
        "+1=1?1~=", "+1=1?1~+1;", "+1=1?1~&", "+1=1?1~?", "+1=1?4|~3;!1=1", "+1=1?6|~1;!1=1", "+1=1?6|~;",
        "+1=1?6|~", "+1=1?1|2|~4;!1=1", "+1=1?1|2|3|~1;!1=1", "+1=1?1|~0;", "+1=1?1|~", "+1=1?1|~;",
        "+1=1?1|~|", "+1=1?1|1|1|1~|1;!1=1", "+1=1?1|1|1|1~", "+1=1?1;+1=1?6|~6;!1=1",
        // updates
        "+1=1?1:~", "+1=1?1:~;", "+1=1?1:~a=1;!1=1", "a1:0;+1=1?1:~;", "a1:0;+1=1?1:~b=1;!1=1",
        "a1:0;+1=1?1:~1", "a1:0;+1=1?1:~d=1;", "a1:0;+1=1?1:a~", "a1:0;+1=1?1:a~;", "a1:0;+1=1?1:a~<1;",
        "a1:0;+1=1?1:a~:1;", "a1:0;+1=1?1:a=~", "a1:0;+1=1?1:a=~;", "a1:0;+1=1?1:a=~b;", "a1:0;+1=1?1:a=~-1;",
        "a1:0;+1=1?1:a=~=1;", "a1:0;+1=1?1:a=1~=1;", "a1:0;+1=1?1:a=1~", "a1:0;+1=1?1:a=1~&", "a1:0;+1=1?1:a=1~:",
        "a1:0;+1=1?1:a=1~?", "a1:0;+1=1?1:a=1,~", "a1:0;+1=1?1:a=1,~;", "a1:0;+1=1?1:a=1,~a=0;!1=1",
        "a1:0;+1=1?1:a=1,~b=0;!1=1", "a1:0;b1:0;+1=1?1:a=1,b=0,~a=0;!1=1", "a1:0;+1=1?1:a=1|1:~b=1;",
        "a1:0;b1:0;c1:0;+1=1?1:a=1,b=1,c=1,~a=1;!1=1", "a1:0;b1:0;c1:0;+1=1?1:a=1,b=1,c=1,~;",
        "a1:0;b1:0;c1:0;+1=1?1:a=1,b=1,c=1,~d=1;", "a1:0;+1=1?1:a=1+1+1+1~+1;!1=1", "a1:0;+1=1?1:a=a+~;",
        "a1:0;+1=1?1:a=~100;!1=1", "a1:0;+1=1?1:a=~00;!1=1", "a1:0;+1=1?1:a=1;~,", "a1:0;+1=1?1:a=a~a;",
        // how many commands
        "+1=1?1;+1=1?1;+1=1?1;+1=1?1;+1=1?1;+1=1?1;+1=1?1;+1=1?1;+1=1?1;+1=1?1;~+1=1?1;!1=1",
        "-1=1?1;-1=1?1;-1=1?1;-1=1?1;-1=1?1;-1=1?1;-1=1?1;-1=1?1;-1=1?1;-1=1?1;~-1=1?1;!1=1",
        // the target's guard
        "!~", "!~-1=0", "!~+1=0", "!~!", "!~a=1", "!1~", "!1~!1", "!1=~", "!1=1~;", "!1=1~?", "!1=1~!", "!1=1&~",
        "!1=1~=1", "!1=1+~", "!1=1-~", "!~00=0", "!0~", "!~00", "!~010=1", "!1=~100", "!1=12~a",
        "!1=1&1=1&1=1&1=1~&1=1", "!1+1-1+1~-1=1", "!1=1+1+1+1~+1", "!1=1~|", "!1=1~:", "!1~&1=1", "!1=1~,",
        "a3:1;!a=1~;", "a3:1;!a=~b", "a3:1;!a=1~a", "a3:1;!a~a",
    };

    public static void main(String[] args) {
        Check check = new Check();
        games(check);
        noGames(check);
        prefixes(check);
        strangers(check);
        longest(check);
        check.end();
    }

    private static String textOf(String game) {
        return game.substring(game.indexOf(' ') + 1);
    }

    private static void games(Check check) {
        for (String game : GAMES) {
            check.dueGame(textOf(game), Integer.parseInt(game.substring(0, game.indexOf(' '))));
        }
    }

    private static void noGames(Check check) {
        ChanceGame same = new ChanceGame();
        for (int k = 0; k < NO_GAMES.length; k++) {
            String marked = NO_GAMES[k];
            check.dueNoGame(marked);
            // One text behind the other; an object is used for no more than 512 calls.
            same = k % 15 == 0 ? new ChanceGame() : same;
            check.due("reads " + marked, Check.reads(same, marked.replace("~", "")), false);
            check.due("place on the same object " + marked, same.place(), marked.indexOf('~'));
            ChanceGame last = same;
            check.dueThrow("no game on the same object", IllegalStateException.class, last::solve);
        }
    }

    private static void prefixes(Check check) {
        for (String game : GAMES) {
            String text = textOf(game);
            for (int length = 0; length < text.length(); length++) {
                ChanceGame x = new ChanceGame();
                if (!Check.reads(x, text.substring(0, length))) {
                    check.due("place of " + text.substring(0, length), x.place(), length);
                } else {
                    check.due("ends in the target's guard", text.indexOf('!') < length, true);
                }
            }
        }
    }

    private static void strangers(Check check) {
        for (String game : GAMES) {
            String text = textOf(game);
            for (int at = 0; at <= text.length(); at++) {
                ChanceGame x = new ChanceGame();
                String wrong = text.substring(0, at) + "~" + text.substring(at);
                check.due("reads " + wrong, Check.reads(x, wrong), false);
                check.due("place of " + wrong, x.place(), at);
            }
        }
    }

    private static void longest(Check check) {
        String test = "99+99+99+99=99+99+99+99";
        String guard = test + "&" + test + "&" + test + "&" + test;
        String text = "a1:0;+" + guard + "?1;!" + guard;
        ChanceGame x = new ChanceGame();
        Check.type(x, text);
        check.due("type more", x.type('1', 1), ChanceGame.NONE);
        check.due("read 200 characters", x.read(), 1);
        check.due("solve", x.solve(), 1);
        check.due("target", x.target(0), true);
    }
}
