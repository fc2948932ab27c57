import java.util.ArrayList;
import java.util.List;

/** A game as the tests tell it: it writes its own text, and is played without reading that. */
final class Told {
    /** A sum's items, each a sign, and a name (from 'a') or a number. */
    static final class Sum {
        final List<int[]> items = new ArrayList<>();

        static Sum of(int... signsAndItems) {
            Sum sum = new Sum();
            for (int k = 0; k < signsAndItems.length; k += 2) {
                sum.items.add(new int[] {signsAndItems[k], signsAndItems[k + 1]});
            }
            return sum;
        }

        static int name(int v) {
            return 100 + v;
        }

        int at(int[] state) {
            int total = 0;
            for (int[] item : items) {
                total += item[0] * (item[1] >= 100 ? state[item[1] - 100] : item[1]);
            }
            return total;
        }

        @Override
        public String toString() {
            StringBuilder text = new StringBuilder();
            for (int[] item : items) {
                text.append(text.length() == 0 ? "" : item[0] < 0 ? "-" : "+");
                text.append(item[1] >= 100 ? String.valueOf((char) ('a' + item[1] - 100)) : String.valueOf(item[1]));
            }
            return text.toString();
        }
    }

    record Test(Sum left, char sign, Sum right) {
        boolean holds(int[] state) {
            int compared = Integer.compare(left.at(state), right.at(state));
            return switch (sign) {
                case '<' -> compared < 0;
                case '>' -> compared > 0;
                case '=' -> compared == 0;
                default -> compared != 0;
            };
        }

        @Override
        public String toString() {
            return left.toString() + sign + right;
        }
    }

    record Branch(int weight, List<Integer> names, List<Sum> sums) {
        @Override
        public String toString() {
            StringBuilder text = new StringBuilder().append(weight);
            for (int k = 0; k < names.size(); k++) {
                text.append(k == 0 ? ':' : ',').append((char) ('a' + names.get(k))).append('=').append(sums.get(k));
            }
            return text.toString();
        }
    }

    record Command(boolean ofMax, List<Test> guard, List<Branch> branches) {
        @Override
        public String toString() {
            return (ofMax ? "+" : "-") + joined(guard, "&") + "?" + joined(branches, "|") + ";";
        }
    }

    final int[] most = new int[3];
    final int[] first = new int[3];
    final List<Command> commands = new ArrayList<>();
    final List<Test> target = new ArrayList<>();

    static boolean allHold(List<Test> guard, int[] state) {
        boolean hold = true;
        for (Test test : guard) {
            hold &= test.holds(state);
        }
        return hold;
    }

    int[] follow(int[] state, Branch branch) {
        int[] next = state.clone();
        for (int k = 0; k < branch.names.size(); k++) {
            int v = branch.names.get(k);
            int sum = branch.sums.get(k).at(state);
            next[v] = sum < 0 ? 0 : sum > most[v] ? most[v] : sum;
        }
        return next;
    }

    static String joined(List<?> parts, String between) {
        StringBuilder text = new StringBuilder();
        for (Object part : parts) {
            text.append(text.length() == 0 ? "" : between).append(part);
        }
        return text.toString();
    }

    @Override
    public String toString() {
        StringBuilder text = new StringBuilder();
        for (int v = 0; v < 3; v++) {
            if (most[v] > 0) {
                text.append((char) ('a' + v)).append(most[v]).append(':').append(first[v]).append(';');
            }
        }
        return text.append(joined(commands, "")).append('!').append(joined(target, "&")).toString();
    }
}
