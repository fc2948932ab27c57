/** Promises 14 (upper), 15 (lower) and 16 (good), by games whose answers are told here. */
public final class ValueTest {
    private static final int NONE = ChanceGame.NONE;

    public static void main(String[] args) {
        Check check = new Check();
        ruin(check);
        lowestTerms(check);
        ends(check);
        loopsForEver(check);
        bestOfMany(check);
        betterThanTheFirst(check);
        maxMustNotWait(check);
        maxMustNotTrustMin(check);
        earlierGoodChoicesBind(check);
        withoutAnyChance(check);
        minTakesTheFirstThatKeeps(check);
        minLoops(check);
        largeNumbers(check);
        check.end();
    }

    private static void dueValue(Check check, ChanceGame x, int i, long upper, long lower, int good) {
        check.due("upper " + i, x.upper(i), upper);
        check.due("lower " + i, x.lower(i), lower);
        check.due("good " + i, x.good(i), good);
    }

    private static void ruin(Check check) {
        ChanceGame x = Check.solved("a5:2;+a>0&a<5?1:a=a+1|2:a=a-1;!a=5");
        // With 1 to 2 the chance from a is (2^a - 1) / 31.
        int[] uppers = {3, 7, 1, 15, 0, 31};
        for (int i = 0; i < 6; i++) {
            boolean ends = i > 3;
            dueValue(check, x, i, ends ? i - 4 : uppers[i], ends ? 1 : 31, ends ? NONE : 0);
        }
    }

    private static void lowestTerms(Check check) {
        ChanceGame x = Check.solved("a2:0;+a=0?2:a=1|4:a=2;!a=1");
        dueValue(check, x, 0, 1, 3, 0);
        dueValue(check, x, 1, 1, 1, NONE);
        dueValue(check, x, 2, 0, 1, NONE);
    }

    private static void ends(Check check) {
        dueValue(check, Check.solved("!1=2"), 0, 0, 1, NONE);
        dueValue(check, Check.solved("!1=1"), 0, 1, 1, NONE);
        dueValue(check, Check.solved("a3:1;+a=2?1;!a=3"), 0, 0, 1, NONE);
    }

    private static void loopsForEver(Check check) {
        dueValue(check, Check.solved("+1=1?1;!1=2"), 0, 0, 1, 0);
        dueValue(check, Check.solved("-1=1?1;!1=2"), 0, 0, 1, 0);
        ChanceGame x = Check.solved("a3:0;+a=0?1:a=1|1:a=2;-a=2?1;!a=1");
        dueValue(check, x, 0, 1, 2, 0);
        dueValue(check, x, 2, 0, 1, 1);
        // A loop that is left for certain takes nothing from the value.
        dueValue(check, Check.solved("a1:0;-a=0?5|1:a=1;!a=1"), 0, 1, 1, 0);
    }

    private static void bestOfMany(Check check) {
        String tosses = "a=0?1:a=1|1:a=2;Sa=0?2:a=1|1:a=2;Sa=0?1:a=1|2:a=2;Sa=0?4:a=1|2:a=2;";
        dueValue(check, Check.solved("a2:0;" + ("S" + tosses).replace('S', '+') + "!a=1"), 0, 2, 3, 1);
        dueValue(check, Check.solved("a2:0;" + ("S" + tosses).replace('S', '-') + "!a=1"), 0, 1, 3, 2);
        dueValue(check, Check.solved("a2:0;" + ("S" + tosses).replace('S', '-') + "!a=2"), 0, 1, 3, 1);
    }

    /** A way that is seen first to have a chance at all is not yet the best one. */
    private static void betterThanTheFirst(Check check) {
        ChanceGame x = Check.solved("a3:0;+a=0?1:a=1;+a=0?1:a=2|5:a=3;+a=1?1:a=2;!a=2");
        dueValue(check, x, 0, 1, 1, 0);
        dueValue(check, x, 1, 1, 1, 2);
        // A half, and one: no smaller step up can be.
        x = Check.solved("a4:0;+a=0?1:a=1;+a=0?1:a=2;+a=1?1:a=3|1:a=4;+a=2?1:a=3;!a=3");
        dueValue(check, x, 0, 1, 1, 1);
        dueValue(check, x, 1, 1, 2, 2);
        x = Check.solved("a4:0;-a=0?1:a=2;-a=0?1:a=1;+a=1?1:a=3|1:a=4;+a=2?1:a=3;!a=3");
        dueValue(check, x, 0, 1, 2, 1);
    }

    /** To wait gives a state just its value, but who only waits gets nothing. */
    private static void maxMustNotWait(Check check) {
        dueValue(check, Check.solved("a2:0;+a=0?1:a=1|1:a=2;+a=0?1;!a=1"), 0, 1, 2, 0);
        dueValue(check, Check.solved("a2:0;+a=0?1;+a=0?1:a=1|1:a=2;!a=1"), 0, 1, 2, 1);
        ChanceGame x = Check.solved("a3:0;+a=0?1:a=1;+a=1?1:a=0;+a<2?1:a=2|1:a=3;!a=2");
        dueValue(check, x, 0, 1, 2, 0);
        dueValue(check, x, 1, 1, 2, 2);
    }

    /** MIN's good choice in state 1 leaves it, but MIN could also send MAX back for ever. */
    private static void maxMustNotTrustMin(Check check) {
        ChanceGame x = Check.solved("a3:0;+a=0?1:a=1;+a=0?1:a=2|1:a=3;-a=1?1:a=2|1:a=3;-a=1?1:a=0;!a=2");
        dueValue(check, x, 0, 1, 2, 1);
        dueValue(check, x, 1, 1, 2, 2);
    }

    /** Each of three states could wait for another, but not all of them. */
    private static void earlierGoodChoicesBind(Check check) {
        ChanceGame x = Check.solved("a4:0;+a=0?1:a=1;+a=1?1:a=2;+a=2?1:a=0;+a<3?1:a=3|2:a=4;!a=3");
        dueValue(check, x, 0, 1, 3, 0);
        dueValue(check, x, 1, 1, 3, 1);
        // State 2 is the target; a is 2 in state 4.
        dueValue(check, x, 4, 1, 3, 3);
    }

    private static void withoutAnyChance(Check check) {
        ChanceGame x = Check.solved("a4:0;+a=0?1:a=1;+a=0?1:a=2;-a=1?1:a=3;-a=1?1:a=2;-a=2?1:a=0;!a=3");
        dueValue(check, x, 0, 0, 1, 0);
        dueValue(check, x, 1, 0, 1, 3);
        dueValue(check, x, 2, 0, 1, 4);
        dueValue(check, x, 3, 1, 1, NONE);
    }

    private static void minTakesTheFirstThatKeeps(Check check) {
        ChanceGame x = Check.solved("a3:0;-a=0?1:a=2;-a=0?1|1:a=1;-a=0?1:a=1;-a=1?1:a=0|1:a=2|1:a=3;!a=2");
        dueValue(check, x, 0, 1, 2, 1);
        dueValue(check, x, 2, 1, 2, 3);
    }

    private static void minLoops(Check check) {
        ChanceGame x = Check.solved("a3:0;-a=0?1:a=1;-a=1?1:a=2;+a=2?1:a=0|1:a=3;-a=1?1:a=0;!a=3");
        dueValue(check, x, 0, 0, 1, 0);
        dueValue(check, x, 1, 0, 1, 3);
        dueValue(check, x, 2, 1, 2, 2);
        dueValue(check, x, 3, 1, 1, NONE);
    }

    /** Six tosses of 1 to 5 in a row: the largest lower number of a chain without ways back. */
    private static void largeNumbers(Check check) {
        ChanceGame x = Check.solved("a7:0;+a<6?1:a=a+1|5:a=7;!a=6");
        check.due("states", x.states(), 8);
        dueValue(check, x, 0, 1, 46656, 0);
        dueValue(check, x, 1, 1, 7776, 0);
        x = Check.solved("a7:0;-a<6?5:a=a+1|1:a=7;!a=7");
        dueValue(check, x, 0, 46656 - 15625, 46656, 0);
        // Back to the first each time: the chance to come so far before the one loss.
        x = Check.solved("a7:0;+a<6?1:a=a+1|5:a=0;+a=6?1:a=7|5:a=0;!a=7");
        dueValue(check, x, 0, 1, 1, 0);
    }
}
