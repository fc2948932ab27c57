/** Promises 2 (type) and 3 (wipe). */
public final class TypeTest {
    public static void main(String[] args) {
        Check check = new Check();
        lengths(check);
        order(check);
        wrongCounts(check);
        wrongCharacters(check);
        full(check);
        wiped(check);
        check.end();
    }

    private static void lengths(Check check) {
        ChanceGame game = new ChanceGame();
        int typed = 0;
        for (int n = 1; n <= 8; n++) {
            typed += n;
            check.due("type of " + n, game.type(Check.packed("!!!!!!!!"), n), typed);
        }
    }

    private static void order(Check check) {
        ChanceGame game = new ChanceGame();
        check.due("type !0=0", game.type(Check.packed("!0=0"), 4), 4);
        check.due("read !0=0", game.read(), 0);
        // What stands above the lowest n bytes does not count, whatever it is.
        check.due("type with more above", game.type(0x80FF0000_00000000L | Check.packed("!1=1"), 4), 4);
        check.due("read !1=1", game.read(), 0);
        check.due("solve", game.solve(), 1);
        check.due("target", game.target(0), true);
    }

    private static void wrongCounts(Check check) {
        ChanceGame game = new ChanceGame();
        int[] counts = {0, -1, 9, 200, Integer.MIN_VALUE, Integer.MAX_VALUE};
        for (int n : counts) {
            check.due("type n " + n, game.type(Check.packed("!!!!!!!!"), n), ChanceGame.NONE);
        }
        check.due("nothing was typed", game.wipe(), 0);
    }

    private static void wrongCharacters(Check check) {
        ChanceGame game = new ChanceGame();
        for (int character = 0; character < 256; character++) {
            boolean fits = character >= 33 && character <= 126;
            check.due("type " + character, game.type(character, 1), fits ? 1 : ChanceGame.NONE);
            check.due("wipe " + character, game.wipe(), fits ? 1 : 0);
            for (int at = 0; at < 8; at++) {
                long eight = Check.packed("!!!!!!!!") & ~(255L << 8 * at) | (long) character << 8 * at;
                check.due("type " + character + " at " + at, game.type(eight, 8), fits ? 8 : ChanceGame.NONE);
                check.due("wipe " + character + " at " + at, game.wipe(), fits ? 8 : 0);
            }
        }
    }

    private static void full(Check check) {
        ChanceGame game = new ChanceGame();
        for (int k = 1; k <= 24; k++) {
            check.due("type up to " + 8 * k, game.type(Check.packed("!!!!!!!!"), 8), 8 * k);
        }
        check.due("type up to 193", game.type('!', 1), 193);
        check.due("type up to 201", game.type(Check.packed("!!!!!!!!"), 8), ChanceGame.NONE);
        check.due("type up to 200", game.type(Check.packed("!!!!!!!"), 7), 200);
        check.due("type more", game.type('!', 1), ChanceGame.NONE);
        check.due("wipe all", game.wipe(), 200);
        check.due("type again", game.type('!', 1), 1);
    }

    private static void wiped(Check check) {
        ChanceGame game = Check.solved("a5:2;+a<5?1:a=a+1;!a=5");
        Check.type(game, "a3:");
        check.due("wipe", game.wipe(), 3);
        check.due("wipe again", game.wipe(), 0);
        check.due("the states stay", game.states(), 4);
        check.due("the values stay", game.upper(0), 1);
        check.due("the game stays", game.solve(), 4);
        check.due("no place", game.place(), ChanceGame.NONE);
    }
}
