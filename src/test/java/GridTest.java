/** Every combination of arguments at and beyond their edges: which exception it throws, or that it answers. */
public final class GridTest {
    private static final int LEAST = Integer.MIN_VALUE;
    private static final int GREATEST = Integer.MAX_VALUE;
    private static final int[] COUNTERS = {LEAST, -1, 0, 1, 2, 3, 4, 5, GREATEST};
    private static final int[] BOUNDS = {LEAST, -5, 0, 4, 5, 6, 199, 200, 201, GREATEST};
    private static final int[] SHOWN = {LEAST, -10001, -10000, -9999, 0, 9999, 10000, GREATEST};
    private static final int[] STEPS = {LEAST, -1, 0, 1, 9999, 10000, GREATEST};
    private static final int[] ROWS = {LEAST, -1, 0, 1, 2, 10, 11, 99, 100, 101, GREATEST};
    private static final int[] MARKS = {LEAST, -1, 0, 1, 4, 5, 10, 11, 75, 76, 589, 590, 599, 600, GREATEST};
    private static final int[] SHARES = {LEAST, -1, 0, 1, 500, 999, 1000, 1001, GREATEST};
    private static final int[] NUMBERS = {LEAST, LEAST + 1, -10001, -10000, 0, 10000, GREATEST - 1, GREATEST};
    private static final int[] COUNTS_OF_MIXED = {11, 0, 600, 590};
    private static final int[] MARKS_OF_MIXED = {5, 0, 76, 590};
    private static final int MOST_CALLS = 480;

    private QueueMiddles mixed;
    private int calls;

    public static void main(String[] args) {
        GridTest test = new GridTest();
        for (int counter : COUNTERS) {
            test.changes(counter);
            test.rows(counter);
            test.pours(counter);
            test.questions(counter);
            test.marks(counter);
            test.shares(counter);
            test.numbers(counter);
        }
        Checks.finish();
    }

    private static boolean isCounter(int counter) {
        return counter >= 0 && counter <= 3;
    }

    private static int numbersOf(int counter) {
        return isCounter(counter) ? COUNTS_OF_MIXED[counter] : 0;
    }

    private static int marksOf(int counter) {
        return isCounter(counter) ? MARKS_OF_MIXED[counter] : 0;
    }

    private static boolean within(int least, int number, int greatest) {
        return least <= number && number <= greatest;
    }

    /** As the throws clauses order them: counter, other arguments, state. */
    private static String due(boolean counterRight, boolean argumentsRight, boolean stateRight) {
        if (!counterRight) {
            return "throws.IndexOutOfBoundsException";
        }
        if (!argumentsRight) {
            return "throws.IllegalArgumentException";
        }
        return stateRight ? "answers" : "throws.IllegalStateException";
    }

    /** A call that answers may change the object, so that the next one needs a new one. */
    private void hold(String call, String due, Whole.Question question) {
        if (mixed == null || calls >= MOST_CALLS) {
            mixed = new QueueMiddles();
            Scenes.mixed(mixed);
            calls = 0;
        }
        calls++;
        QueueMiddles x = mixed;
        String outcome = Checks.outcome(() -> question.of(x));
        Checks.due(call, due, () -> outcome.startsWith("throws.") ? outcome : "answers");
        if (!outcome.startsWith("throws.")) {
            mixed = null;
        }
    }

    private void changes(int c) {
        boolean right = isCounter(c);
        hold("thinOut(" + c + ")", due(right, true, true), x -> x.thinOut(c));
        for (int bound : BOUNDS) {
            hold("begin(" + c + ", " + bound + ")", due(right, within(5, bound, 200), true), x -> x.begin(c, bound));
        }
        for (int number : SHOWN) {
            boolean taken = within(-9999, number, 9999);
            hold("show(" + c + ", " + number + ")", due(right, taken, numbersOf(c) < 600), x -> x.show(c, number));
        }
    }

    private void rows(int c) {
        for (int first : SHOWN) {
            for (int step : STEPS) {
                for (int many : ROWS) {
                    boolean taken = within(-9999, first, 9999) && within(0, step, 9999) && within(1, many, 100);
                    hold("showRow(" + c + ", " + first + ", " + step + ", " + many + ")",
                            due(isCounter(c), taken, 600 - numbersOf(c) >= many),
                            x -> x.showRow(c, first, step, many));
                }
            }
        }
    }

    private void pours(int c) {
        for (int into : COUNTERS) {
            boolean right = isCounter(c) && isCounter(into);
            hold("pour(" + c + ", " + into + ")", due(right, c != into, numbersOf(c) + numbersOf(into) <= 600),
                    x -> x.pour(c, into));
        }
    }

    private void questions(int c) {
        String answers = due(isCounter(c), true, true);
        String ofNumbers = due(isCounter(c), true, numbersOf(c) > 0);
        hold("count(" + c + ")", answers, x -> x.count(c));
        hold("bound(" + c + ")", answers, x -> x.bound(c));
        hold("allowance(" + c + ")", answers, x -> x.allowance(c));
        hold("marks(" + c + ")", answers, x -> x.marks(c));
        hold("widest(" + c + ")", answers, x -> x.widest(c));
        hold("part(" + c + ")", answers, x -> x.part(c));
        hold("middle(" + c + ")", ofNumbers, x -> x.middle(c));
        hold("middleByHeaps(" + c + ")", ofNumbers, x -> x.middleByHeaps(c));
    }

    private void marks(int c) {
        for (int mark : MARKS) {
            String due = due(within(0, mark, marksOf(c) - 1), true, true);
            hold("value(" + c + ", " + mark + ")", due, x -> x.value(c, mark));
            hold("lowestRank(" + c + ", " + mark + ")", due, x -> x.lowestRank(c, mark));
            hold("highestRank(" + c + ", " + mark + ")", due, x -> x.highestRank(c, mark));
        }
    }

    private void shares(int c) {
        for (int share : SHARES) {
            String due = due(isCounter(c), within(0, share, 1000), numbersOf(c) > 0);
            hold("ask(" + c + ", " + share + ")", due, x -> x.ask(c, share));
            hold("off(" + c + ", " + share + ")", due, x -> x.off(c, share));
            hold("reallyOff(" + c + ", " + share + ")", due, x -> x.reallyOff(c, share));
        }
    }

    private void numbers(int c) {
        for (int number : NUMBERS) {
            String due = due(isCounter(c), true, true);
            hold("atLeastUpTo(" + c + ", " + number + ")", due, x -> x.atLeastUpTo(c, number));
            hold("atMostUpTo(" + c + ", " + number + ")", due, x -> x.atMostUpTo(c, number));
            hold("reallyUpTo(" + c + ", " + number + ")", due, x -> x.reallyUpTo(c, number));
        }
    }
}
