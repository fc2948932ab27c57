/** Counts answers, prints those that are not as due, and types and reads texts for the tests. */
final class Check {
    interface Call {
        void run();
    }

    /** Stands in a text before the first character that is wrong; no game has this character. */
    private static final char MARK = '~';

    private int passed = 0;
    private int failed = 0;
    private int sentences = 0;
    private int passedBefore = 0;
    private int failedBefore = 0;
    private String sentence = "";

    /** The words of the document that the answers from here on are due by. */
    void sentence(String words) {
        endSentence();
        sentence = words;
        sentences++;
    }

    private void endSentence() {
        boolean asked = passed + failed > passedBefore + failedBefore;
        if (!sentence.isEmpty() && !asked) {
            failed++;
            System.out.println("[" + sentence + "] was not tested");
        }
        passedBefore = passed;
        failedBefore = failed;
    }

    private void fail(String what) {
        failed++;
        System.out.println((sentence.isEmpty() ? "" : "[" + sentence + "] ") + what);
    }

    void due(String what, long got, long want) {
        if (got == want) {
            passed++;
        } else {
            fail(what + " answered " + got + ", due is " + want);
        }
    }

    void due(String what, boolean got, boolean want) {
        due(what, got ? 1 : 0, want ? 1 : 0);
    }

    void due(String what, String got, String want) {
        if (got.equals(want)) {
            passed++;
        } else {
            fail(what + " gave\n" + got + "\ndue is\n" + want);
        }
    }

    void dueThrow(String what, Class<? extends RuntimeException> want, Call call) {
        String got = "nothing";
        try {
            call.run();
        } catch (RuntimeException e) {
            got = e.getClass().getSimpleName();
        }
        if (got.equals(want.getSimpleName())) {
            passed++;
        } else {
            fail(what + " threw " + got + ", due is " + want.getSimpleName());
        }
    }

    /** The text is a game with so many commands; it is empty then, and no place was wrong. */
    void dueGame(String text, int commands) {
        ChanceGame x = new ChanceGame();
        type(x, text);
        try {
            due("read " + text, x.read(), commands);
        } catch (IllegalArgumentException e) {
            fail("read " + text + " is no game at " + x.place());
        }
        due("the text is empty behind " + text, x.wipe(), 0);
        due("place behind " + text, x.place(), ChanceGame.NONE);
    }

    /** The text is no game, and wrong at the mark: then the text, the game and all that was found stay. */
    void dueNoGame(String marked) {
        String text = marked.replace(String.valueOf(MARK), "");
        ChanceGame x = solved("b3:1;+b<3?2:b=b+1|1:b=3;!b=3");
        String before = Seen.of(x);
        type(x, text);
        dueThrow("read " + marked, IllegalArgumentException.class, x::read);
        due("place " + marked, x.place(), marked.indexOf(MARK));
        due("what was found stays " + marked, Seen.of(x), before);
        dueThrow("read again " + marked, IllegalArgumentException.class, x::read);
        due("place again " + marked, x.place(), marked.indexOf(MARK));
        due("the text stays " + marked, x.wipe(), text.length());
        due("the game stays " + marked, x.solve(), 3);
        due("the game's states " + marked, Seen.of(x), before);
    }

    void end() {
        sentence("");
        String of = sentences > 1 ? " of " + (sentences - 1) + " sentences" : "";
        System.out.println(passed + " answers" + of + " as due, " + failed + " not");
        if (failed != 0 || passed == 0) {
            System.exit(1);
        }
    }

    static long packed(String characters) {
        long bytes = 0;
        for (int k = 0; k < characters.length(); k++) {
            bytes = bytes << 8 | characters.charAt(k);
        }
        return bytes;
    }

    static void type(ChanceGame game, String text) {
        for (int from = 0; from < text.length(); from += 8) {
            String part = text.substring(from, Math.min(text.length(), from + 8));
            if (game.type(packed(part), part.length()) == ChanceGame.NONE) {
                throw new IllegalArgumentException("can't be typed: " + text);
            }
        }
    }

    /** Whether what is typed is a game; the text is gone then in either case. */
    static boolean reads(ChanceGame game, String text) {
        type(game, text);
        try {
            game.read();
            return true;
        } catch (IllegalArgumentException e) {
            game.wipe();
            return false;
        }
    }

    static ChanceGame withGame(String text) {
        ChanceGame game = new ChanceGame();
        type(game, text);
        game.read();
        return game;
    }

    static ChanceGame solved(String text) {
        ChanceGame game = withGame(text);
        game.solve();
        return game;
    }
}
