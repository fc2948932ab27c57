/** Promises 1 to 5, sentence by sentence: what is typed and read, what is refused, and what stays then. */
public final class TextPromisesTest {
    private static final int NONE = ChanceGame.NONE;

    private final Check check = new Check();

    public static void main(String[] args) {
        new TextPromisesTest().run();
    }

    private void run() {
        newObject();
        typeCounts();
        typeOrder();
        typeCharacters();
        typeFull();
        wipe();
        read();
        readNothingIsFound();
        readRefused();
        readAgain();
        readPlaces();
        readLongest();
        place();
        check.end();
    }

    private void newObject() {
        check.sentence("Promise 1: No text, no game.");
        ChanceGame x = new ChanceGame();
        check.due("nothing is found", Seen.of(x), "states 0 mixed -1\n0 is -1 -1 -1 owner -1 value IllegalStateException\n");
        check.due("place", x.place(), NONE);
        check.dueThrow("solve", IllegalStateException.class, x::solve);
        check.due("wipe", x.wipe(), 0);
        check.due("the first character typed is the first", x.type('!', 1), 1);
        ChanceGame empty = new ChanceGame();
        check.dueThrow("no text is no game", IllegalArgumentException.class, empty::read);
        check.due("place of no text", empty.place(), 0);
        ChanceGame other = Check.solved(Games.SMALL);
        check.due("one object knows nothing of another", new ChanceGame().states(), 0);
        check.due("nor the other of it", other.states(), 3);
    }

    private void typeCounts() {
        check.sentence("Promise 2: NONE, and nothing is done, when n is not 1 .. 8");
        int[] wrong = {0, -1, 9, 10, 16, 64, 200, 256, 257, -1000, Integer.MIN_VALUE, Integer.MAX_VALUE};
        for (int n : wrong) {
            dueTypeRefused("n " + n, Check.packed("!!!!!!!!"), n);
        }
        for (int n = 1; n <= 8; n++) {
            check.due("n " + n, new ChanceGame().type(Check.packed("!!!!!!!!"), n), n);
        }
    }

    /** The text, a game's first half, is still there as it was, and so is all that was found. */
    private void dueTypeRefused(String what, long characters, int n) {
        ChanceGame x = Check.solved(Games.SMALL);
        String before = Seen.of(x);
        Check.type(x, "a5:2;+a<");
        check.due("type, " + what, x.type(characters, n), NONE);
        check.due("what was found, " + what, Seen.of(x), before);
        check.due("no place, " + what, x.place(), NONE);
        check.due("the text goes on, " + what, x.type(Check.packed("5?1"), 3), 11);
        Check.type(x, ":a=a+1;!a=5");
        check.due("the text is whole, " + what, x.read(), 1);
        check.due("and the same, " + what, x.solve(), 4);
    }

    private void typeOrder() {
        check.sentence("Promise 2: Types n characters, the lowest n bytes of characters, the highest of them first");
        String text = "a1:0;!a#";
        for (int n = 1; n <= 8; n++) {
            ChanceGame x = new ChanceGame();
            // Above the lowest n stand bytes that could not be typed.
            long above = n == 8 ? 0 : -1L << 8 * n;
            check.due("type of " + n, x.type(above | Check.packed(text.substring(0, n)), n), n);
            Check.type(x, text.substring(n));
            check.due("type the rest of " + n, x.type('0', 1), 9);
            check.due("read of " + n, x.read(), 0);
            check.due("solve of " + n, x.solve(), 1);
            check.due("a of " + n, x.variable(0, 0), 0);
        }
        check.due("above them anything may stand", new ChanceGame().type(' ' << 8 | '!', 1), 1);
        check.due("but not among them", new ChanceGame().type(' ' << 8 | '!', 2), NONE);
        check.due("nor nothing", new ChanceGame().type('!', 2), NONE);
    }

    private void typeCharacters() {
        check.sentence("Promise 2: NONE, and nothing is done, when one is not 33 .. 126");
        int[] wrong = {0, 1, 9, 10, 31, 32, 127, 128, 160, 161, 254, 255};
        for (int character : wrong) {
            for (int n = 1; n <= 8; n++) {
                for (int at = 0; at < n; at++) {
                    long others = Check.packed("!!!!!!!!") & ~(255L << 8 * at);
                    dueTypeRefused(character + " at " + at + " of " + n, others | (long) character << 8 * at, n);
                }
            }
        }
        for (int character = 0; character < 256; character++) {
            int due = character >= 33 && character <= 126 ? 8 : NONE;
            for (int at = 0; at < 8; at++) {
                long others = Check.packed("!!!!!!!!") & ~(255L << 8 * at);
                check.due(character + " at " + at, new ChanceGame().type(others | (long) character << 8 * at, 8), due);
            }
        }
        check.due("all are 255", new ChanceGame().type(-1L, 8), NONE);
        check.due("all are 0", new ChanceGame().type(0, 8), NONE);
        check.due("the lowest is wrong", new ChanceGame().type(Long.MIN_VALUE, 8), NONE);
    }

    private void typeFull() {
        check.sentence("Promise 2: NONE, and nothing is done, when there would be more than 200");
        for (int typed = 191; typed <= 200; typed++) {
            for (int n = 1; n <= 8; n++) {
                ChanceGame x = new ChanceGame();
                Check.type(x, "!".repeat(typed));
                boolean fits = typed + n <= 200;
                check.due(n + " behind " + typed, x.type(Check.packed("!!!!!!!!"), n), fits ? typed + n : NONE);
                check.due("typed, " + n + " behind " + typed, x.wipe(), fits ? typed + n : typed);
            }
        }
        ChanceGame x = new ChanceGame();
        Check.type(x, longGame(199));
        check.due("the 200th with one too many", x.type(Check.packed("1+"), 2), NONE);
        check.due("the 200th", x.type('1', 1), 200);
        check.due("the 201st", x.type('1', 1), NONE);
        check.due("it is still a game", x.read(), 10);
        check.due("and there is room again", x.type('1', 1), 1);
    }

    /** So many characters of a game of 200 with ten commands. */
    private static String longGame(int length) {
        StringBuilder text = new StringBuilder("a9:0;b9:0;");
        for (int c = 0; c < 10; c++) {
            text.append("-a<9&b=").append(c).append("?1:a=a+1;");
        }
        return text.append("!1+1=1&10=10&1=1&1=1").substring(0, length);
    }

    private void wipe() {
        check.sentence("Promise 3: What is typed is gone: how many characters.");
        for (int length : new int[] {0, 1, 7, 8, 9, 199, 200}) {
            ChanceGame x = Check.solved(Games.SMALL);
            String before = Seen.of(x);
            Check.type(x, "a".repeat(length));
            check.due("wipe " + length, x.wipe(), length);
            check.due("wipe again " + length, x.wipe(), 0);
            check.due("what was found stays " + length, Seen.of(x), before);
            check.dueThrow("the text is empty " + length, IllegalArgumentException.class, x::read);
            check.due("place " + length, x.place(), 0);
            check.due("the game stays " + length, x.solve(), 3);
            Check.type(x, "!1=1");
            check.due("a new text begins " + length, x.read(), 0);
        }
        ChanceGame x = new ChanceGame();
        check.dueThrow("read", IllegalArgumentException.class, x::read);
        Check.type(x, "!x");
        check.dueThrow("read", IllegalArgumentException.class, x::read);
        check.due("wipe", x.wipe(), 2);
        check.due("the place stays", x.place(), 1);
    }

    private void read() {
        check.sentence("Promise 4: The text becomes the game, and is empty then: how many commands it has");
        ChanceGame x = new ChanceGame();
        for (int count = 0; count <= 10; count++) {
            Check.type(x, "+1=1?1;".repeat(count) + "!1=0");
            check.due("read of " + count, x.read(), count);
            check.due("empty behind " + count, x.wipe(), 0);
            check.due("the game of " + count, x.solve(), 1);
            check.due("the last choice of " + count, x.choice(0, count - 1), count - 1);
            check.due("one more of " + count, x.choice(0, count), NONE);
        }
        Check.type(x, "!1=1");
        check.due("fewer again", x.read(), 0);
        check.dueThrow("the empty text is no game", IllegalArgumentException.class, x::read);
        check.due("place", x.place(), 0);
        check.due("the game stays", x.solve(), 1);
        check.due("the latest one", x.target(0), true);
    }

    private void readNothingIsFound() {
        check.sentence("Promise 4: nothing is found yet");
        String nothing = Seen.of(new ChanceGame());
        for (String text : new String[] {Games.SMALL, Games.MIXED_AT_1, Games.TOO_MANY, "!1=1"}) {
            ChanceGame x = Check.withGame(text);
            check.due("first game", Seen.of(x), nothing);
            x.solve();
            Check.type(x, text);
            x.read();
            check.due("the same game again", Seen.of(x), nothing);
        }
    }

    private void readRefused() {
        check.sentence("Promise 4: IllegalArgumentException when it is none: then text and game stay");
        for (String text : new String[] {Games.SMALL, Games.MIXED_AT_1, Games.TOO_MANY}) {
            ChanceGame x = Check.solved(text);
            String before = Seen.of(x);
            // It has other variables, more commands and another target before it is wrong.
            Check.type(x, "b9:9;+b=9?6;+b=9?5;-b<9?4;-b<9?3;!b=9&");
            check.dueThrow("read behind " + text, IllegalArgumentException.class, x::read);
            check.due("place behind " + text, x.place(), 38);
            check.due("what was found, behind " + text, Seen.of(x), before);
            x.solve();
            check.due("the game, behind " + text, Seen.of(x), before);
            check.due("the text, behind " + text, x.type(Check.packed("b=9"), 3), 41);
            check.due("the text goes on, behind " + text, x.read(), 4);
        }
        ChanceGame x = new ChanceGame();
        Check.type(x, "!1=");
        check.dueThrow("read before any game", IllegalArgumentException.class, x::read);
        check.dueThrow("no game then", IllegalStateException.class, x::solve);
        check.due("the text stays", x.type('1', 1), 4);
        check.due("read", x.read(), 0);
        Check.type(x, "?");
        check.dueThrow("read before solve", IllegalArgumentException.class, x::read);
        check.due("nothing is found yet", x.states(), 0);
        check.due("solve", x.solve(), 1);
    }

    /** Three texts, one of which may be no game: the object has then what a new one has of the last game. */
    private void readAgain() {
        check.sentence("Promise 4: The text becomes the game: nothing is left of the games and texts before");
        String[] games = {Games.SMALL, Games.MIXED_AT_1, Games.TOO_MANY, "!1=1", "b9:5;c9:5;!b=c", "a1:0;-a=0?1;+a=1?1;!a=1",
            "a3:0;+a=0?1;+a=0?1:a=1;-a=1?1:a=2|1:a=3;!a=3", "a3:0;-a=0?1:a=1;+a=1?1:a=0;+a=1?1:a=3;-a=0?1;!a=3",
            "a9:0;-a=0?1:a=1|1:a=2|1:a=3|3:a=4;+a=1?1;-a=1?1;+a>1?1:a=0;!a=4"};
        String[] none = {"b9:9;c9:9;+b=9?1:b=0|5:c=0,b=1;-b<9&b>1&c=9&b+c=18?6:c=0;!", "a9:9;!a=9&a=9&a=9?"};
        for (String game : games) {
            String due = Seen.of(Check.solved(game));
            for (String before : games) {
                for (String first : games) {
                    ChanceGame x = Check.solved(first);
                    dueSeen(x, before, Seen.of(Check.solved(before)));
                    dueSeen(x, game, due);
                }
                for (String wrong : none) {
                    ChanceGame x = Check.solved(before);
                    check.due("reads " + wrong, Check.reads(x, wrong), false);
                    dueSeen(x, game, due);
                }
            }
        }
    }

    private void dueSeen(ChanceGame x, String text, String due) {
        check.due("reads " + text, Check.reads(x, text), true);
        x.solve();
        check.due("what is found of " + text, Seen.of(x), due);
        x.solve();
        check.due("what is found again of " + text, Seen.of(x), due);
    }

    private void readPlaces() {
        check.sentence("Promise 4: the place is that of the first character that can't stand where it is");
        check.dueNoGame("~?");
        check.dueNoGame("a1:0;+a=0?1:a=1;!a=1~?");
        check.dueNoGame("a1:0;+a=0~!1:?=1;!a=1");
        dueWrongAnywhere("a1:0;+a=0&1=1?1:a=1+0|2;!a=1", '~');
        check.sentence("Promise 4: for a number that is too long, has a zero in front, or is not allowed there, its first digit");
        check.dueNoGame("!1=~100");
        check.dueNoGame("!1=~01");
        check.dueNoGame("a~0:0;!1=1");
        check.dueNoGame("a~10:0;!1=1");
        check.dueNoGame("a5:~6;!1=1");
        check.dueNoGame("a5:~50;!1=1");
        check.dueNoGame("+1=1?~0;!1=1");
        check.dueNoGame("+1=1?~12;!1=1");
        check.dueNoGame("+1=1?3|~4;!1=1");
        check.dueNoGame("+1=1?3|~10;!1=1");
        check.dueNoGame("a~100?");
        check.dueNoGame("a1:~01?");
        check.sentence("Promise 4: or the text's length");
        String game = "a1:0;+a=0&1=1?1:a=1+0|2;!a=1";
        for (int length = 0; length < game.length(); length++) {
            check.dueNoGame(game.substring(0, length) + "~");
        }
    }

    /** For the one character that can be typed and that the marked texts can't have. */
    private void dueWrongAnywhere(String game, char character) {
        for (int at = 0; at <= game.length(); at++) {
            ChanceGame x = new ChanceGame();
            check.due("reads " + character + " at " + at, Check.reads(x, game.substring(0, at) + character), false);
            check.due("place of " + character + " at " + at, x.place(), at);
        }
    }

    private void readLongest() {
        check.sentence("Promise 4, a text of 200 characters: a game, wrong at the last one, and at its length");
        check.due("length", longGame(200).length(), 200);
        check.dueGame(longGame(200), 10);
        check.dueNoGame(longGame(199) + "~?");
        check.dueNoGame(longGame(198) + "1+~");
        check.dueNoGame("~" + "?".repeat(200));
        check.dueNoGame("a~" + "1".repeat(199));
        check.dueNoGame("!1=~" + "0".repeat(197));
    }

    private void place() {
        check.sentence("Promise 5: The place where a text was wrong latest; NONE before any.");
        ChanceGame x = new ChanceGame();
        check.due("new", x.place(), NONE);
        Check.type(x, "!1=1");
        check.due("typed", x.place(), NONE);
        x.read();
        check.due("read", x.place(), NONE);
        x.solve();
        check.due("solved", x.place(), NONE);
        check.due("reads", Check.reads(x, "!1=1;"), false);
        check.due("wrong at 4", x.place(), 4);
        check.due("reads", Check.reads(x, "?"), false);
        check.due("wrong at 0", x.place(), 0);
        check.due("reads", Check.reads(x, "!1?"), false);
        check.due("wrong at 2", x.place(), 2);
        check.due("reads", Check.reads(x, Games.SMALL), true);
        check.due("stays behind a game", x.place(), 2);
        x.solve();
        x.wipe();
        x.type('!', 1);
        x.type(' ', 1);
        check.due("stays behind all else", x.place(), 2);
    }
}
