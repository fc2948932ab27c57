import java.util.ArrayList;
import java.util.Collections;
import java.util.List;
import java.util.Random;

/** Games by chance, always the same ones: every answer against what trying all choices gives. */
public final class RandomGamesTest {
    private static final int NONE = ChanceGame.NONE;
    private static final char[] SIGNS = {'<', '>', '=', '#'};

    private final Check check = new Check();
    private final Random random;
    private int solved = 0;
    private int mixed = 0;
    private int many = 0;
    private int traps = 0;

    private RandomGamesTest(long seed) {
        random = new Random(seed);
    }

    public static void main(String[] args) {
        int games = args.length > 0 ? Integer.parseInt(args[0]) : 4000;
        long seed = args.length > 1 ? Long.parseLong(args[1]) : 20261115L;
        new RandomGamesTest(seed).run(games);
    }

    private void run(int games) {
        String[] earlier = {"!1=1", "!1=1"};
        for (int k = 0; k < games; k++) {
            Told told = k % 2 == 0 ? anyGame() : boardGame();
            String text = told.toString();
            if (text.length() <= 200) {
                compare(earlier, new Played(told), text);
                earlier = new String[] {earlier[1], text};
            }
        }
        System.out.println(solved + " games solved, " + mixed + " mixed, " + many + " with too many states, "
            + traps + " choices that have the value and are not good");
        boolean enough = solved > games / 4 && mixed > games / 60 && many > games / 60 && traps > games / 60;
        check.due("enough of each kind", enough, true);
        check.end();
    }

    private int from(int least, int most) {
        return least + random.nextInt(most - least + 1);
    }

    /** Each state has a player, so that few are mixed; what comes is any state of the board. */
    private Told boardGame() {
        Told told = new Told();
        int last = from(2, random.nextInt(3) == 0 ? 7 : 4);
        told.most[0] = last;
        told.first[0] = 0;
        boolean[] ofMax = new boolean[last + 1];
        for (int a = 0; a <= last; a++) {
            ofMax[a] = random.nextInt(5) < 3;
        }
        for (int c = from(3, 10); c > 0; c--) {
            int a = from(0, last - 1);
            List<Told.Branch> branches = new ArrayList<>();
            int left = 6;
            // Mostly small and even weights, so that many choices have the same value.
            for (int b = from(1, 3); b > 0 && left > 0; b--) {
                int weight = random.nextInt(3) == 0 ? from(1, Math.min(left, 4)) : 1;
                left -= weight;
                int to = from(0, last);
                branches.add(to == a ? new Told.Branch(weight, List.of(), List.of())
                    : new Told.Branch(weight, List.of(0), List.of(Told.Sum.of(1, to))));
            }
            told.commands.add(new Told.Command(ofMax[a],
                List.of(new Told.Test(Told.Sum.of(1, Told.Sum.name(0)), '=', Told.Sum.of(1, a))), branches));
        }
        told.target.add(new Told.Test(Told.Sum.of(1, Told.Sum.name(0)), '=', Told.Sum.of(1, last)));
        return told;
    }

    private Told anyGame() {
        Told told = new Told();
        List<Integer> names = new ArrayList<>();
        for (int v = 0; v < 3; v++) {
            if (random.nextInt(4) > 0) {
                told.most[v] = from(1, random.nextInt(3) == 0 ? 9 : 2);
                told.first[v] = from(0, told.most[v]);
                names.add(v);
            }
        }
        int players = random.nextInt(3);
        for (int c = from(random.nextInt(3), 8); c > 0; c--) {
            boolean ofMax = players == 2 ? random.nextBoolean() : players == 1;
            told.commands.add(new Told.Command(ofMax, anyGuard(names), anyBranches(names)));
        }
        if (names.isEmpty() || random.nextInt(3) == 0) {
            told.target.addAll(anyGuard(names));
        } else {
            int v = names.get(0);
            Told.Sum end = Told.Sum.of(1, told.most[v] - told.first[v]);
            told.target.add(new Told.Test(Told.Sum.of(1, Told.Sum.name(v)), '=', end));
        }
        return told;
    }

    private List<Told.Test> anyGuard(List<Integer> names) {
        List<Told.Test> guard = new ArrayList<>();
        for (int t = from(1, random.nextInt(6) == 0 ? 4 : 1); t > 0; t--) {
            guard.add(new Told.Test(anySum(names), SIGNS[from(0, 3)], anySum(names)));
        }
        return guard;
    }

    private List<Told.Branch> anyBranches(List<Integer> names) {
        List<Told.Branch> branches = new ArrayList<>();
        int left = 6;
        for (int b = from(1, random.nextInt(3) == 0 ? 4 : 2); b > 0 && left > 0; b--) {
            int weight = from(1, Math.max(1, left / 2));
            left -= weight;
            List<Integer> updated = new ArrayList<>(names);
            Collections.shuffle(updated, random);
            updated = updated.subList(0, from(random.nextInt(8) == 0 || updated.isEmpty() ? 0 : 1, updated.size()));
            List<Told.Sum> sums = new ArrayList<>();
            for (int k = 0; k < updated.size(); k++) {
                sums.add(anySum(names));
            }
            branches.add(new Told.Branch(weight, updated, sums));
        }
        return branches;
    }

    private Told.Sum anySum(List<Integer> names) {
        Told.Sum sum = new Told.Sum();
        for (int k = from(1, random.nextInt(5) == 0 ? 4 : 2); k > 0; k--) {
            boolean name = !names.isEmpty() && random.nextInt(3) > 0;
            int number = random.nextInt(8) == 0 ? from(0, 99) : from(0, 3);
            int sign = sum.items.isEmpty() || random.nextBoolean() ? 1 : -1;
            sum.items.add(new int[] {sign, name ? Told.Sum.name(names.get(from(0, names.size() - 1))) : number});
        }
        return sum;
    }

    /** The object solved earlier games before, so that what is left of them would be seen. */
    private ChanceGame solvedBehind(String[] earlier, Played played, String text) {
        ChanceGame x = Check.solved(earlier[0]);
        Check.type(x, earlier[1]);
        x.read();
        x.solve();
        Check.type(x, text);
        check.due("read " + text, x.read(), played.game.commands.size());
        check.due("states before solve of " + text, x.states(), 0);
        check.due("solve of " + text, x.solve(), played.answer);
        return x;
    }

    private void compare(String[] earlier, Played played, String text) {
        for (int i = -1; i <= 8; i++) {
            // An object for each state, as one is used for no more than 512 calls.
            compareState(solvedBehind(earlier, played, text), played, i, "of state " + i + " of " + text);
        }
        ChanceGame x = solvedBehind(earlier, played, text);
        check.due("states of " + text, x.states(), played.states.size());
        check.due("mixed of " + text, x.mixed(), played.mixed);
        if (played.answer > 0) {
            if (played.pairs() <= 200) {
                solved++;
                played.solve();
                compareValues(x, played, text);
            }
        } else {
            mixed += played.answer == ChanceGame.MIXED ? 1 : 0;
            many += played.answer == ChanceGame.MANY ? 1 : 0;
            check.dueThrow("upper of " + text, IllegalStateException.class, () -> x.upper(0));
        }
    }

    private void compareState(ChanceGame x, Played played, int i, String what) {
        boolean is = i >= 0 && i < played.states.size();
        for (int v = -1; v <= 3; v++) {
            boolean named = is && v >= 0 && v < 3 && played.game.most[v] > 0;
            check.due("variable " + v + " " + what, x.variable(i, v), named ? played.states.get(i)[v] : NONE);
        }
        check.due("target " + what, x.target(i), is && played.isTarget(i));
        List<Integer> choices = is && i < played.choices.size() ? played.choices.get(i) : List.of();
        check.due("owner " + what, x.owner(i), choices.isEmpty() ? NONE : played.isOfMax(i) ? 1 : 0);
        for (int k = -1; k <= 10; k++) {
            check.due("choice " + k + " " + what, x.choice(i, k), k >= 0 && k < choices.size() ? choices.get(k) : NONE);
        }
        for (int c = -1; c <= 10; c++) {
            for (int b = -1; b <= 4; b++) {
                check.due("branch " + c + " " + b + " " + what, x.branch(i, c, b), is ? branch(played, i, c, b) : NONE);
            }
        }
    }

    private static int branch(Played played, int i, int c, int b) {
        if (c < 0 || c >= played.game.commands.size() || b < 0) {
            return NONE;
        }
        List<Told.Branch> branches = played.game.commands.get(c).branches();
        if (b >= branches.size() || !played.isEnabled(i, c) || played.next(i, c, b) == NONE) {
            return NONE;
        }
        return 10 * played.next(i, c, b) + branches.get(b).weight();
    }

    private void compareValues(ChanceGame x, Played played, String text) {
        for (int i = 0; i < played.states.size(); i++) {
            check.due("upper " + i + " of " + text, x.upper(i), played.values[i][0].longValueExact());
            check.due("lower " + i + " of " + text, x.lower(i), played.values[i][1].longValueExact());
            check.due("good " + i + " of " + text, x.good(i), played.good[i]);
            for (int c : played.choices.get(i)) {
                traps += c < played.good[i] && played.hasValue(i, c) ? 1 : 0;
            }
        }
    }
}
