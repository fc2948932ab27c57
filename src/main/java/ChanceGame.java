/**
 * Games of two players and chance, told by guarded commands in a text: the states that can be
 * reached are found, and for each the exact chance, a fraction, with which MAX can see to it that
 * the target is reached, whatever MIN does, and MIN that it is no more; and for each player
 * choices that are enough for that.
 */
public final class ChanceGame {
    public static final int NONE = -1;
    public static final int MIXED = -2;
    public static final int MANY = -3;

    private static final int MOST_CHARACTERS = 200;
    private static final int MOST_AT_ONCE = 8;
    private static final int NAMES = 3;
    private static final int MOST_VALUE = 9;
    private static final int MOST_NUMBER = 99;
    private static final int MOST_COMMANDS = 10;
    private static final int MOST_BRANCHES = 4;
    private static final int MOST_WEIGHT = 6;
    private static final int MOST_TESTS = 4;
    private static final int MOST_ITEMS = 4;
    private static final int MOST_STATES = 8;

    /** A sum is kept as a row of numbers: how often each variable is added, and behind them the rest. */
    private static final int SUM_SIZE = NAMES + 1;

    /** Stands for the text's end; no character that can be typed is equal to it. */
    private static final char END = 0;

    private final Reader reader = new Reader();
    private final Text text = reader.text;
    private final Values values = new Values();
    private final Found found = values.found;
    private final GoodChoices goodChoices = new GoodChoices();
    private boolean hasGame = false;
    private boolean hasValues = false;

    public ChanceGame() {
    }

    public int type(long characters, int n) {
        return text.append(characters, n);
    }

    public int wipe() {
        return text.clear();
    }

    public int read() throws IllegalArgumentException {
        found.begin(reader.readInPlaceOf(found.game));
        hasGame = true;
        hasValues = false;
        text.clear();
        return found.game.count;
    }

    public int place() {
        return reader.wrongPlace;
    }

    public int solve() throws IllegalStateException {
        if (!hasGame) {
            throw new IllegalStateException("there is no game");
        }
        int answer = found.explore();
        found.link();
        hasValues = answer > 0;
        if (hasValues) {
            values.compute();
            goodChoices.choose(found, values);
        }
        return answer;
    }

    public int states() {
        return found.count;
    }

    public int mixed() {
        return found.mixedState;
    }

    public int variable(int i, int v) {
        if (!found.has(i) || v < 0 || v >= NAMES || !found.game.hasVariable(v)) {
            return NONE;
        }
        return found.values[i][v];
    }

    public boolean target(int i) {
        return found.has(i) && hasBit(found.targets, i);
    }

    public int owner(int i) {
        if (!found.has(i) || found.choicesOf(i) == 0) {
            return NONE;
        }
        return found.isOfMax(i) ? 1 : 0;
    }

    public int choice(int i, int k) {
        if (!found.has(i) || k < 0) {
            return NONE;
        }
        int choices = found.choicesOf(i);
        int before = 0;
        for (int c = 0; c < MOST_COMMANDS; c++) {
            if (hasBit(choices, c)) {
                if (before == k) {
                    return c;
                }
                before++;
            }
        }
        return NONE;
    }

    public int branch(int i, int c, int b) {
        if (!found.has(i) || c < 0 || c >= found.game.count || !hasBit(found.enabled[i], c)) {
            return NONE;
        }
        Command command = found.game.commands[c];
        if (b < 0 || b >= command.count) {
            return NONE;
        }
        int next = found.next(i, c, b);
        return next == NONE ? NONE : 10 * next + command.branches[b].weight;
    }

    public long upper(int i) throws IllegalStateException, IndexOutOfBoundsException {
        checkValueOf(i);
        return values.upper[i];
    }

    public long lower(int i) throws IllegalStateException, IndexOutOfBoundsException {
        checkValueOf(i);
        return values.lower[i];
    }

    public int good(int i) throws IllegalStateException, IndexOutOfBoundsException {
        checkValueOf(i);
        return goodChoices.chosen[i];
    }

    private void checkValueOf(int i) {
        if (!hasValues) {
            throw new IllegalStateException("there are no values");
        }
        if (!found.has(i)) {
            throw new IndexOutOfBoundsException("there is no such state");
        }
    }

    /** Sets of states and of commands are kept as the bits of a number. */
    private static boolean hasBit(int bits, int k) {
        return (bits >> k & 1) != 0;
    }

    private static int firstBit(int bits) {
        for (int k = 0; k < MOST_COMMANDS; k++) {
            if (hasBit(bits, k)) {
                return k;
            }
        }
        return NONE;
    }

    /** What is typed and not yet read. */
    private static final class Text {
        final char[] characters = new char[MOST_CHARACTERS];
        int length = 0;

        int append(long bytes, int n) {
            if (n < 1 || n > MOST_AT_ONCE || length + n > MOST_CHARACTERS || !areTypeable(bytes, n)) {
                return NONE;
            }
            for (int k = n - 1; k >= 0; k--) {
                characters[length] = (char) byteAt(bytes, k);
                length++;
            }
            return length;
        }

        int clear() {
            int gone = length;
            length = 0;
            return gone;
        }

        private static boolean areTypeable(long bytes, int n) {
            for (int k = 0; k < n; k++) {
                int character = byteAt(bytes, k);
                if (character < 33 || character > 126) {
                    return false;
                }
            }
            return true;
        }

        private static int byteAt(long bytes, int k) {
            return (int) (bytes >> (8 * k)) & 255;
        }
    }

    /** Tests that must all hold: of each, the left sum less the right one is compared with 0. */
    private static final class Guard {
        final int[] sums = new int[MOST_TESTS * SUM_SIZE];
        final char[] signs = new char[MOST_TESTS];
        int count = 0;

        void clear() {
            for (int k = 0; k < sums.length; k++) {
                sums[k] = 0;
            }
            count = 0;
        }

        boolean holds(int[] state) {
            for (int t = 0; t < count; t++) {
                if (!isAsSaid(signs[t], sumAt(sums, t * SUM_SIZE, state))) {
                    return false;
                }
            }
            return true;
        }

        private static boolean isAsSaid(char sign, int difference) {
            if (sign == '<') {
                return difference < 0;
            }
            if (sign == '>') {
                return difference > 0;
            }
            return (difference == 0) == (sign == '=');
        }
    }

    private static int sumAt(int[] sums, int from, int[] state) {
        int sum = sums[from + NAMES];
        for (int v = 0; v < NAMES; v++) {
            sum += sums[from + v] * state[v];
        }
        return sum;
    }

    /** A weight, and for each variable the sum that it gets. */
    private static final class Branch {
        final int[] sums = new int[NAMES * SUM_SIZE];
        int weight = 0;

        /** A variable that is not updated gets itself, so that no branch needs to say which are. */
        void clear() {
            weight = 0;
            for (int v = 0; v < NAMES; v++) {
                clearSum(v);
                sums[v * SUM_SIZE + v] = 1;
            }
        }

        void clearSum(int v) {
            for (int k = 0; k < SUM_SIZE; k++) {
                sums[v * SUM_SIZE + k] = 0;
            }
        }
    }

    private static final class Command {
        final Guard guard = new Guard();
        final Branch[] branches = new Branch[MOST_BRANCHES];
        boolean isOfMax = false;
        int count = 0;
        int weight = 0;

        Command() {
            for (int b = 0; b < MOST_BRANCHES; b++) {
                branches[b] = new Branch();
            }
        }
    }

    private static final class Game {
        /** 0 for a name that is no variable, as a variable's most is at least 1. */
        final int[] most = new int[NAMES];
        final int[] first = new int[NAMES];
        final Command[] commands = new Command[MOST_COMMANDS];
        final Guard target = new Guard();
        int count = 0;

        Game() {
            for (int c = 0; c < MOST_COMMANDS; c++) {
                commands[c] = new Command();
            }
        }

        void clear() {
            for (int v = 0; v < NAMES; v++) {
                most[v] = 0;
                first[v] = 0;
            }
            count = 0;
        }

        boolean hasVariable(int v) {
            return most[v] > 0;
        }

        int enabledIn(int[] state) {
            int enabled = 0;
            for (int c = 0; c < count; c++) {
                if (commands[c].guard.holds(state)) {
                    enabled |= 1 << c;
                }
            }
            return enabled;
        }

        int commandsOfMax() {
            int ofMax = 0;
            for (int c = 0; c < count; c++) {
                if (commands[c].isOfMax) {
                    ofMax |= 1 << c;
                }
            }
            return ofMax;
        }

        void follow(int[] state, Branch branch, int[] next) {
            for (int v = 0; v < NAMES; v++) {
                int sum = sumAt(branch.sums, v * SUM_SIZE, state);
                next[v] = Math.max(0, Math.min(most[v], sum));
            }
        }
    }

    /**
     * Reads the text into a game. A character is refused only for what stands before it: a comma
     * behind the last variable that could be updated may stand, the name that follows may not.
     */
    private static final class Reader {
        final Text text = new Text();
        /** What is read into; nobody else sees it before the whole text is read. */
        private Game game = new Game();
        private int at = 0;
        int wrongPlace = NONE;

        /** Takes the old game to read the next text into, so that two are enough for all reading. */
        Game readInPlaceOf(Game old) {
            at = 0;
            game.clear();
            for (int v = 0; v < NAMES && isName(here()); v++) {
                readVariable();
            }
            for (int c = 0; c < MOST_COMMANDS && isPlusOrMinus(here()); c++) {
                readCommand(game.commands[c]);
                game.count++;
            }
            expect('!');
            readGuard(game.target);
            if (at < text.length) {
                refuse(at);
            }
            Game told = game;
            game = old;
            return told;
        }

        private void readVariable() {
            int v = here() - 'a';
            if (game.hasVariable(v)) {
                refuse(at);
            }
            at++;
            game.most[v] = readNumber(1, MOST_VALUE);
            expect(':');
            game.first[v] = readNumber(0, game.most[v]);
            expect(';');
        }

        private void readCommand(Command command) {
            command.isOfMax = here() == '+';
            at++;
            readGuard(command.guard);
            expect('?');
            command.count = 0;
            command.weight = 0;
            boolean more = true;
            for (int b = 0; b < MOST_BRANCHES && more; b++) {
                Branch branch = command.branches[b];
                readBranch(branch, MOST_WEIGHT - command.weight);
                command.weight += branch.weight;
                command.count++;
                more = command.count < MOST_BRANCHES && skips('|');
            }
            expect(';');
        }

        private void readGuard(Guard guard) {
            guard.clear();
            boolean more = true;
            for (int t = 0; t < MOST_TESTS && more; t++) {
                readSum(guard.sums, t * SUM_SIZE, 1);
                guard.signs[t] = here();
                if (!isComparison(here())) {
                    refuse(at);
                }
                at++;
                readSum(guard.sums, t * SUM_SIZE, -1);
                guard.count++;
                more = guard.count < MOST_TESTS && skips('&');
            }
        }

        private void readBranch(Branch branch, int mostWeight) {
            branch.clear();
            branch.weight = readNumber(1, mostWeight);
            int updated = 0;
            boolean more = skips(':');
            // One update more than there are names: its name is always refused.
            for (int u = 0; u <= NAMES && more; u++) {
                int nameAt = at;
                int v = readName();
                if (hasBit(updated, v)) {
                    refuse(nameAt);
                }
                updated |= 1 << v;
                expect('=');
                branch.clearSum(v);
                readSum(branch.sums, v * SUM_SIZE, 1);
                more = skips(',');
            }
        }

        /** Adds the sum that stands here, times the factor, to the one that is kept from there on. */
        private void readSum(int[] sums, int from, int factor) {
            int itemFactor = factor;
            boolean more = true;
            for (int k = 0; k < MOST_ITEMS && more; k++) {
                if (isName(here())) {
                    sums[from + readName()] += itemFactor;
                } else {
                    sums[from + NAMES] += itemFactor * readNumber(0, MOST_NUMBER);
                }
                more = k + 1 < MOST_ITEMS && isPlusOrMinus(here());
                if (more) {
                    itemFactor = here() == '-' ? -factor : factor;
                    at++;
                }
            }
        }

        private int readName() {
            int v = here() - 'a';
            if (v < 0 || v >= NAMES || !game.hasVariable(v)) {
                refuse(at);
            }
            at++;
            return v;
        }

        private int readNumber(int least, int most) {
            int start = at;
            int number = 0;
            while (at < text.length && isDigit(here())) {
                number = 10 * number + (here() - '0');
                at++;
            }
            int digits = at - start;
            boolean isNumber = digits == 1 || digits == 2 && text.characters[start] != '0';
            if (!isNumber || number < least || number > most) {
                refuse(start);
            }
            return number;
        }

        private void expect(char character) {
            if (!skips(character)) {
                refuse(at);
            }
        }

        private boolean skips(char character) {
            if (here() != character) {
                return false;
            }
            at++;
            return true;
        }

        private char here() {
            return at < text.length ? text.characters[at] : END;
        }

        private void refuse(int place) {
            wrongPlace = place;
            throw new IllegalArgumentException("the text is no game");
        }

        private static boolean isName(char character) {
            return character >= 'a' && character < 'a' + NAMES;
        }

        private static boolean isDigit(char character) {
            return character >= '0' && character <= '9';
        }

        private static boolean isPlusOrMinus(char character) {
            return character == '+' || character == '-';
        }

        private static boolean isComparison(char character) {
            return character == '<' || character == '>' || character == '=' || character == '#';
        }
    }

    /** The states that were found, by their numbers, and what comes of the commands in them. */
    private static final class Found {
        Game game = new Game();
        int count = 0;
        int mixedState = NONE;
        int targets = 0;
        private int looked = 0;
        private int ofMax = 0;
        final int[][] values = new int[MOST_STATES][NAMES];
        final int[] enabled = new int[MOST_STATES];
        /** Of each state and command, the states that can come of it. */
        final int[][] nextStates = new int[MOST_STATES][MOST_COMMANDS];
        private final int[][] nexts = new int[MOST_STATES][MOST_COMMANDS * MOST_BRANCHES];
        private final int[] coming = new int[NAMES];

        void begin(Game from) {
            game = from;
            clear();
        }

        private void clear() {
            count = 0;
            looked = 0;
            targets = 0;
            mixedState = NONE;
        }

        boolean has(int i) {
            return i >= 0 && i < count;
        }

        int choicesOf(int i) {
            return i < looked ? enabled[i] : 0;
        }

        boolean isOfMax(int i) {
            return i < looked && (enabled[i] & ofMax) != 0;
        }

        int next(int i, int c, int b) {
            return nexts[i][c * MOST_BRANCHES + b];
        }

        /** How many states there are, MIXED or MANY. */
        int explore() {
            clear();
            ofMax = game.commandsOfMax();
            add(game.first);
            for (int i = 0; i < MOST_STATES && i < count; i++) {
                looked++;
                if (isOfMax(i) && (enabled[i] & ~ofMax) != 0) {
                    mixedState = i;
                    return MIXED;
                }
                if (!findFrom(i)) {
                    return MANY;
                }
            }
            return count;
        }

        /** False when there would be too many. */
        private boolean findFrom(int i) {
            for (int c = 0; c < game.count; c++) {
                if (hasBit(enabled[i], c)) {
                    Command command = game.commands[c];
                    for (int b = 0; b < command.count; b++) {
                        game.follow(values[i], command.branches[b], coming);
                        boolean isNew = numberOf(coming) == NONE;
                        if (isNew && count == MOST_STATES) {
                            return false;
                        }
                        if (isNew) {
                            add(coming);
                        }
                    }
                }
            }
            return true;
        }

        private void add(int[] state) {
            int i = count;
            count++;
            System.arraycopy(state, 0, values[i], 0, NAMES);
            if (game.target.holds(state)) {
                targets |= 1 << i;
                enabled[i] = 0;
            } else {
                enabled[i] = game.enabledIn(state);
            }
        }

        private int numberOf(int[] state) {
            for (int i = 0; i < count; i++) {
                boolean same = true;
                for (int v = 0; v < NAMES; v++) {
                    same = same && values[i][v] == state[v];
                }
                if (same) {
                    return i;
                }
            }
            return NONE;
        }

        /** Only behind the finding: what comes may have been found later, and from elsewhere. */
        void link() {
            for (int i = 0; i < count; i++) {
                for (int c = 0; c < game.count; c++) {
                    nextStates[i][c] = 0;
                    if (hasBit(enabled[i], c)) {
                        linkCommand(i, c);
                    }
                }
            }
        }

        private void linkCommand(int i, int c) {
            Command command = game.commands[c];
            for (int b = 0; b < command.count; b++) {
                game.follow(values[i], command.branches[b], coming);
                int next = numberOf(coming);
                nexts[i][c * MOST_BRANCHES + b] = next;
                if (next != NONE) {
                    nextStates[i][c] |= 1 << next;
                }
            }
        }
    }

    /** From where MAX can have it that a set is reached with a chance above 0, whatever MIN does. */
    private static final class Attraction {
        /** Of each state, the choices that its player may take. */
        final int[] allowed = new int[MOST_STATES];
        /** Of each state of MAX that was drawn in, a choice that can bring it nearer. */
        final int[] nearer = new int[MOST_STATES];

        int drawnTo(Found found, int goal) {
            int drawn = goal;
            for (int round = 0; round < found.count; round++) {
                for (int i = 0; i < found.count; i++) {
                    if (!hasBit(drawn, i) && isDrawn(found, i, drawn)) {
                        drawn |= 1 << i;
                    }
                }
            }
            return drawn;
        }

        private boolean isDrawn(Found found, int i, int drawn) {
            return found.isOfMax(i) ? canComeNearer(found, i, drawn) : mustComeNearer(found, i, drawn);
        }

        private boolean canComeNearer(Found found, int i, int drawn) {
            for (int c = 0; c < found.game.count; c++) {
                if (hasBit(allowed[i], c) && (found.nextStates[i][c] & drawn) != 0) {
                    nearer[i] = c;
                    return true;
                }
            }
            return false;
        }

        private boolean mustComeNearer(Found found, int i, int drawn) {
            for (int c = 0; c < found.game.count; c++) {
                if (hasBit(allowed[i], c) && (found.nextStates[i][c] & drawn) == 0) {
                    return false;
                }
            }
            return allowed[i] != 0;
        }
    }

    /**
     * Linear equations of whole numbers, solved without fractions: each step divides by the pivot
     * before it, which leaves no rest, as all numbers on the way are minors of the equations.
     */
    private static final class Equations {
        final long[][] rows = new long[MOST_STATES][MOST_STATES + 1];
        /** Of each unknown, its upper number; their lower number is the same for all. */
        final long[] uppers = new long[MOST_STATES];
        long lower = 1;

        void clear() {
            for (int i = 0; i < MOST_STATES; i++) {
                for (int j = 0; j <= MOST_STATES; j++) {
                    rows[i][j] = 0;
                }
            }
        }

        /** With n unknowns, what they come to stands in column n. */
        void solveFor(int n) {
            lower = 1;
            for (int k = 0; k < n; k++) {
                long pivot = rows[k][k];
                for (int i = 0; i < n; i++) {
                    if (i != k) {
                        eliminate(i, k, n);
                    }
                }
                lower = pivot;
            }
            for (int i = 0; i < n; i++) {
                uppers[i] = rows[i][n];
            }
        }

        private void eliminate(int i, int k, int n) {
            // Never so: pivots are above 0, as from each state the play ends for certain.
            if (lower == 0) {
                return;
            }
            long pivot = rows[k][k];
            long factor = rows[i][k];
            for (int j = k + 1; j <= n; j++) {
                rows[i][j] = (pivot * rows[i][j] - factor * rows[k][j]) / lower;
            }
        }
    }

    /**
     * The values, by making the players' choices better in turn. MAX begins with choices that give
     * a chance above 0 wherever there is one, and never falls back: so whatever MIN chooses, the
     * play ends for certain and the equations have one solution. MIN answers as well as it can
     * before MAX changes anything. When neither can do better, MAX's chances are a solution of
     * the game's own equations that MAX can see to, and the value is the least solution of them.
     */
    private static final class Values {
        /** Far above the few rounds that so small a game can take. */
        private static final int MOST_ROUNDS = 1000000;

        final Found found = new Found();
        private final Attraction attraction = new Attraction();
        private final Equations equations = new Equations();
        private final int[] chosen = new int[MOST_STATES];
        /** The states that have a value above 0. */
        int positive = 0;
        final long[] upper = new long[MOST_STATES];
        final long[] lower = new long[MOST_STATES];

        void compute() {
            chooseFirst();
            boolean better = true;
            for (int round = 0; round < MOST_ROUNDS && better; round++) {
                setEquations();
                equations.solveFor(found.count);
                better = improve(false) || improve(true);
            }
            for (int i = 0; i < found.count; i++) {
                long divisor = commonDivisor(equations.uppers[i], equations.lower);
                upper[i] = equations.uppers[i] / divisor;
                lower[i] = equations.lower / divisor;
            }
        }

        /** Whether a choice gives a state just its value. */
        boolean isTight(int i, int c) {
            return weigh(i, c) == found.game.commands[c].weight * equations.uppers[i];
        }

        private void chooseFirst() {
            for (int i = 0; i < found.count; i++) {
                attraction.allowed[i] = found.choicesOf(i);
            }
            positive = attraction.drawnTo(found, found.targets);
            for (int i = 0; i < found.count; i++) {
                chosen[i] = found.isOfMax(i) ? attraction.nearer[i] : firstBit(found.choicesOf(i));
            }
        }

        private boolean isOpen(int i) {
            return hasBit(positive, i) && !hasBit(found.targets, i);
        }

        private void setEquations() {
            equations.clear();
            for (int i = 0; i < found.count; i++) {
                if (isOpen(i)) {
                    setEquation(equations.rows[i], i, chosen[i]);
                } else {
                    equations.rows[i][i] = 1;
                    equations.rows[i][found.count] = hasBit(found.targets, i) ? 1 : 0;
                }
            }
        }

        private void setEquation(long[] row, int i, int c) {
            Command command = found.game.commands[c];
            row[i] += command.weight;
            for (int b = 0; b < command.count; b++) {
                row[found.next(i, c, b)] -= command.branches[b].weight;
            }
        }

        private boolean improve(boolean forMax) {
            boolean better = false;
            for (int i = 0; i < found.count; i++) {
                if (isOpen(i) && found.isOfMax(i) == forMax) {
                    int best = bestChoice(i, forMax);
                    better = better || best != chosen[i];
                    chosen[i] = best;
                }
            }
            return better;
        }

        /** The choice that was taken stays, unless another is truly better: else MAX could fall back. */
        private int bestChoice(int i, boolean forMax) {
            int best = chosen[i];
            long bestSum = weigh(i, best);
            for (int c = 0; c < found.game.count; c++) {
                if (hasBit(found.choicesOf(i), c)) {
                    long sum = weigh(i, c);
                    long more = sum * found.game.commands[best].weight - bestSum * found.game.commands[c].weight;
                    if (forMax ? more > 0 : more < 0) {
                        best = c;
                        bestSum = sum;
                    }
                }
            }
            return best;
        }

        /** The upper numbers of what comes of a command, each times its branch's weight. */
        private long weigh(int i, int c) {
            Command command = found.game.commands[c];
            long sum = 0;
            for (int b = 0; b < command.count; b++) {
                sum += command.branches[b].weight * equations.uppers[found.next(i, c, b)];
            }
            return sum;
        }

        /** Of a number from 0 and one above 0. */
        private static long commonDivisor(long a, long b) {
            long divisor = b;
            long rest = a;
            // Every second step at least halves the divisor, so a long needs less than 128.
            for (int step = 0; step < 128 && rest != 0; step++) {
                long next = divisor % rest;
                divisor = rest;
                rest = next;
            }
            return divisor == 0 ? 1 : divisor;
        }
    }

    /**
     * The good choices. Only a tight choice, one that gives a state just its value, can be good.
     * For MIN each tight choice is: with such choices alone the values still solve the equations,
     * and MAX gets the least solution. MAX must also not be held back for ever where the value is
     * above 0, and MIN can hold it back by tight choices alone: so from all those states the
     * target, or the loss of all chance, must draw the play on.
     */
    private static final class GoodChoices {
        private final Attraction attraction = new Attraction();
        final int[] chosen = new int[MOST_STATES];

        void choose(Found found, Values values) {
            for (int i = 0; i < found.count; i++) {
                attraction.allowed[i] = tightChoices(found, values, i);
            }
            int all = (1 << found.count) - 1;
            int ends = found.targets | all & ~values.positive;
            for (int i = 0; i < found.count; i++) {
                if (found.isOfMax(i)) {
                    chooseForMax(found, i, ends);
                } else {
                    chosen[i] = firstBit(attraction.allowed[i]);
                }
            }
        }

        private static int tightChoices(Found found, Values values, int i) {
            int tight = 0;
            for (int c = 0; c < found.game.count; c++) {
                if (hasBit(found.choicesOf(i), c) && values.isTight(i, c)) {
                    tight |= 1 << c;
                }
            }
            return tight;
        }

        /** What is chosen stays the only allowed choice here for the states that come after. */
        private void chooseForMax(Found found, int i, int ends) {
            int all = (1 << found.count) - 1;
            int tight = attraction.allowed[i];
            chosen[i] = NONE;
            for (int c = 0; c < found.game.count && chosen[i] == NONE; c++) {
                if (hasBit(tight, c)) {
                    attraction.allowed[i] = 1 << c;
                    if (attraction.drawnTo(found, ends) == all) {
                        chosen[i] = c;
                    }
                }
            }
        }
    }
}
