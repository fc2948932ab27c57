/** All that an object answers of what was found, written down: to see that a call changed nothing. */
final class Seen {
    private Seen() {
    }

    static String of(ChanceGame x) {
        StringBuilder seen = new StringBuilder();
        seen.append("states ").append(x.states()).append(" mixed ").append(x.mixed()).append('\n');
        // One state more than there are: it must stay none.
        for (int i = 0; i <= x.states(); i++) {
            seen.append(i).append(" is");
            for (int v = 0; v < 3; v++) {
                seen.append(' ').append(x.variable(i, v));
            }
            seen.append(x.target(i) ? " target" : "").append(" owner ").append(x.owner(i));
            seen.append(" value ").append(valueOf(x, i));
            appendChoices(seen, x, i);
            seen.append('\n');
        }
        return seen.toString();
    }

    private static void appendChoices(StringBuilder seen, ChanceGame x, int i) {
        int c = x.choice(i, 0);
        for (int k = 1; c != ChanceGame.NONE; k++) {
            seen.append(" command ").append(c).append(':');
            int next = x.branch(i, c, 0);
            for (int b = 1; next != ChanceGame.NONE; b++) {
                seen.append(' ').append(next);
                next = x.branch(i, c, b);
            }
            c = x.choice(i, k);
        }
    }

    private static String valueOf(ChanceGame x, int i) {
        try {
            return x.upper(i) + "/" + x.lower(i) + " good " + x.good(i);
        } catch (IllegalStateException | IndexOutOfBoundsException e) {
            return e.getClass().getSimpleName();
        }
    }
}
