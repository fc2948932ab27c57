import java.math.BigInteger;
import java.util.ArrayList;
import java.util.Arrays;
import java.util.List;

/**
 * What the document says of a told game, found by trying all choices by states alone of both
 * players: slow, but each line is one of the document's.
 */
final class Played {
    final Told game;
    final List<int[]> states = new ArrayList<>();
    final List<List<Integer>> choices = new ArrayList<>();
    int answer;
    int mixed = ChanceGame.NONE;
    /** Each an upper and a lower number. */
    BigInteger[][] values;
    int[] good;

    Played(Told game) {
        this.game = game;
        answer = find();
    }

    boolean isTarget(int i) {
        return Told.allHold(game.target, states.get(i));
    }

    boolean isEnabled(int i, int c) {
        return !isTarget(i) && Told.allHold(game.commands.get(c).guard(), states.get(i));
    }

    int numberOf(int[] state) {
        for (int i = 0; i < states.size(); i++) {
            if (Arrays.equals(states.get(i), state)) {
                return i;
            }
        }
        return ChanceGame.NONE;
    }

    int next(int i, int c, int b) {
        return numberOf(game.follow(states.get(i), game.commands.get(c).branches().get(b)));
    }

    boolean isOfMax(int i) {
        for (int c : choices.get(i)) {
            if (game.commands.get(c).ofMax()) {
                return true;
            }
        }
        return false;
    }

    private boolean isOfMin(int i) {
        for (int c : choices.get(i)) {
            if (!game.commands.get(c).ofMax()) {
                return true;
            }
        }
        return false;
    }

    private int find() {
        states.add(game.first.clone());
        for (int i = 0; i < states.size(); i++) {
            List<Integer> enabled = new ArrayList<>();
            for (int c = 0; c < game.commands.size(); c++) {
                if (isEnabled(i, c)) {
                    enabled.add(c);
                }
            }
            choices.add(enabled);
            if (isOfMax(i) && isOfMin(i)) {
                mixed = i;
                return ChanceGame.MIXED;
            }
            for (int c : enabled) {
                for (Told.Branch branch : game.commands.get(c).branches()) {
                    int[] state = game.follow(states.get(i), branch);
                    if (numberOf(state) == ChanceGame.NONE) {
                        if (states.size() == 8) {
                            return ChanceGame.MANY;
                        }
                        states.add(state);
                    }
                }
            }
        }
        return states.size();
    }

    /** How many pairs of choices by states alone there are. */
    long pairs() {
        long pairs = 1;
        for (List<Integer> of : choices) {
            pairs *= Math.max(1, of.size());
        }
        return pairs;
    }

    void solve() {
        values = valueWith(choices);
        good = new int[states.size()];
        chooseFor(true);
        chooseFor(false);
    }

    /** Whether a choice gives a state just its value, which is not enough to be good. */
    boolean hasValue(int i, int c) {
        BigInteger upper = BigInteger.ZERO;
        BigInteger lower = BigInteger.ONE;
        long weights = 0;
        for (int b = 0; b < branches(c); b++) {
            long weight = game.commands.get(c).branches().get(b).weight();
            BigInteger[] value = values[next(i, c, b)];
            upper = upper.multiply(value[1]).add(lower.multiply(value[0]).multiply(BigInteger.valueOf(weight)));
            lower = lower.multiply(value[1]);
            weights += weight;
        }
        return upper.multiply(values[i][1]).equals(lower.multiply(values[i][0]).multiply(BigInteger.valueOf(weights)));
    }

    private void chooseFor(boolean max) {
        List<List<Integer>> left = new ArrayList<>(choices);
        for (int i = 0; i < states.size(); i++) {
            if (choices.get(i).isEmpty()) {
                good[i] = ChanceGame.NONE;
            } else if (isOfMax(i) == max) {
                for (int c : choices.get(i)) {
                    left.set(i, List.of(c));
                    if (Arrays.deepEquals(valueWith(left), values)) {
                        good[i] = c;
                        break;
                    }
                }
            }
        }
    }

    /** For each state, the greatest that MAX can have of the least that MIN leaves. */
    private BigInteger[][] valueWith(List<List<Integer>> allowed) {
        BigInteger[][] best = null;
        for (int[] ofMax : strategies(allowed, true)) {
            BigInteger[][] least = null;
            for (int[] ofMin : strategies(allowed, false)) {
                least = pick(least, chances(ofMax, ofMin), -1);
            }
            best = pick(best, least, 1);
        }
        return best;
    }

    private List<int[]> strategies(List<List<Integer>> allowed, boolean max) {
        List<int[]> all = new ArrayList<>();
        all.add(new int[states.size()]);
        for (int i = 0; i < states.size(); i++) {
            if (!choices.get(i).isEmpty() && isOfMax(i) == max) {
                List<int[]> longer = new ArrayList<>();
                for (int[] strategy : all) {
                    for (int c : allowed.get(i)) {
                        int[] with = strategy.clone();
                        with[i] = c;
                        longer.add(with);
                    }
                }
                all = longer;
            }
        }
        return all;
    }

    private static BigInteger[][] pick(BigInteger[][] one, BigInteger[][] other, int sign) {
        if (one == null) {
            return other;
        }
        BigInteger[][] picked = new BigInteger[one.length][];
        for (int i = 0; i < one.length; i++) {
            int compared = one[i][0].multiply(other[i][1]).compareTo(other[i][0].multiply(one[i][1]));
            picked[i] = compared * sign >= 0 ? one[i] : other[i];
        }
        return picked;
    }

    /** The chances to reach the target when all is chosen. */
    private BigInteger[][] chances(int[] ofMax, int[] ofMin) {
        int n = states.size();
        boolean[] can = new boolean[n];
        for (int round = 0; round <= n; round++) {
            for (int i = 0; i < n; i++) {
                can[i] |= isTarget(i);
                for (int b = 0; !choices.get(i).isEmpty() && b < branches(chosen(i, ofMax, ofMin)); b++) {
                    can[i] |= can[next(i, chosen(i, ofMax, ofMin), b)];
                }
            }
        }
        BigInteger[][] rows = new BigInteger[n][n + 1];
        for (int i = 0; i < n; i++) {
            Arrays.fill(rows[i], BigInteger.ZERO);
            rows[i][i] = BigInteger.ONE;
            if (isTarget(i)) {
                rows[i][n] = BigInteger.ONE;
            } else if (can[i]) {
                int c = chosen(i, ofMax, ofMin);
                rows[i][i] = BigInteger.ZERO;
                for (int b = 0; b < branches(c); b++) {
                    BigInteger weight = BigInteger.valueOf(game.commands.get(c).branches().get(b).weight());
                    int to = next(i, c, b);
                    rows[i][i] = rows[i][i].add(weight);
                    rows[i][to] = rows[i][to].subtract(weight);
                }
            }
        }
        return eliminated(rows);
    }

    private int chosen(int i, int[] ofMax, int[] ofMin) {
        return isOfMax(i) ? ofMax[i] : ofMin[i];
    }

    private int branches(int c) {
        return game.commands.get(c).branches().size();
    }

    private static BigInteger[][] eliminated(BigInteger[][] rows) {
        int n = rows.length;
        for (int k = 0; k < n; k++) {
            int pivot = k;
            while (rows[pivot][k].signum() == 0) {
                pivot++;
            }
            BigInteger[] swapped = rows[k];
            rows[k] = rows[pivot];
            rows[pivot] = swapped;
            for (int i = 0; i < n; i++) {
                BigInteger factor = rows[i][k];
                for (int j = 0; i != k && j <= n; j++) {
                    rows[i][j] = rows[i][j].multiply(rows[k][k]).subtract(rows[k][j].multiply(factor));
                }
            }
        }
        BigInteger[][] solution = new BigInteger[n][];
        for (int i = 0; i < n; i++) {
            BigInteger divisor = rows[i][n].gcd(rows[i][i]);
            divisor = rows[i][i].signum() < 0 ? divisor.negate() : divisor;
            solution[i] = new BigInteger[] {rows[i][n].divide(divisor), rows[i][i].divide(divisor)};
        }
        return solution;
    }
}
