/** Counts answers, prints those that are not as due, and types and reads texts for the tests. */
final class Check {
    interface Call {
        void run();
    }

    private int passed = 0;
    private int failed = 0;

    void due(String what, long got, long want) {
        if (got == want) {
            passed++;
        } else {
            failed++;
            System.out.println(what + " answered " + got + ", due is " + want);
        }
    }

    void due(String what, boolean got, boolean want) {
        due(what, got ? 1 : 0, want ? 1 : 0);
    }

    void dueThrow(String what, Class<? extends RuntimeException> want, Call call) {
        String got = "nothing";
        try {
            call.run();
        } catch (RuntimeException e) {
            got = e.getClass().getSimpleName();
        }
        if (got.equals(want.getSimpleName())) {
            passed++;
        } else {
            failed++;
            System.out.println(what + " threw " + got + ", due is " + want.getSimpleName());
        }
    }

    void end() {
        System.out.println(passed + " answers as due, " + failed + " not");
        if (failed != 0 || passed == 0) {
            System.exit(1);
        }
    }

    static long packed(String characters) {
        long bytes = 0;
        for (int k = 0; k < characters.length(); k++) {
            bytes = bytes << 8 | characters.charAt(k);
        }
        return bytes;
    }

    static void type(ChanceGame game, String text) {
        for (int from = 0; from < text.length(); from += 8) {
            String part = text.substring(from, Math.min(text.length(), from + 8));
            if (game.type(packed(part), part.length()) == ChanceGame.NONE) {
                throw new IllegalArgumentException("can't be typed: " + text);
            }
        }
    }

    /** Whether what is typed is a game; the text is gone then in either case. */
    static boolean reads(ChanceGame game, String text) {
        type(game, text);
        try {
            game.read();
            return true;
        } catch (IllegalArgumentException e) {
            game.wipe();
            return false;
        }
    }

    static ChanceGame withGame(String text) {
        ChanceGame game = new ChanceGame();
        type(game, text);
        game.read();
        return game;
    }

    static ChanceGame solved(String text) {
        ChanceGame game = withGame(text);
        game.solve();
        return game;
    }
}
