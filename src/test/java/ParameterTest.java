import java.io.IOException;

/**
 * Each line of the document about a parameter: the least and the greatest value are taken,
 * the first one beyond on each side is not.
 */
public final class ParameterTest {
    private static final String INDEX = "throws.IndexOutOfBoundsException";
    private static final String ARGUMENT = "throws.IllegalArgumentException";
    private static final String MARK = "- `mark`: 0 for the first one";
    private static final String SHARE = "- `share`: 0 to 1000";
    private static final String NUMBER = "- `number`: any number";

    private final Sentences sentences = new Sentences();

    private ParameterTest() throws IOException {
    }

    public static void main(String[] args) throws IOException {
        ParameterTest test = new ParameterTest();
        test.counters();
        test.bounds();
        test.numbersToShow();
        test.rowArguments();
        test.marks();
        test.marksOfFullOne();
        test.shares();
        test.anyNumber();
        test.sentences.demandAllThatStart("- `");
        test.sentences.finish();
    }

    private void counters() {
        for (Face.Entry entry : Face.CALLS) {
            String sentence = sentences.under(entry.heading, entry.line);
            for (int counter = 0; counter < 4; counter++) {
                int c = counter;
                Checks.due(sentence + "counter " + c, entry.due.of(c), () -> entry.call.of(Face.grown(), c));
            }
            Checks.due(sentence + "counter -1", INDEX, () -> entry.call.of(Face.grown(), -1));
            Checks.due(sentence + "counter 4", INDEX, () -> entry.call.of(Face.grown(), 4));
        }
    }

    private void bounds() {
        String sentence = sentences.under("Promise 2", "- `bound`: 5 to 200");
        sentences.under("Terms", "A counter has a bound of 5 to 200 thousandths.");
        for (int counter = 0; counter < 4; counter++) {
            int c = counter;
            QueueMiddles x = new QueueMiddles();
            Checks.due(sentence + "least", 0, () -> x.begin(c, 5));
            Checks.due(sentence + "least, taken", 5, () -> x.bound(c));
            Checks.due(sentence + "below", ARGUMENT, () -> x.begin(c, 4));
            Checks.due(sentence + "greatest", 0, () -> x.begin(c, 200));
            Checks.due(sentence + "greatest, taken", 200, () -> x.bound(c));
            Checks.due(sentence + "above", ARGUMENT, () -> x.begin(c, 201));
            Checks.due(sentence + "still", 200, () -> x.bound(c));
        }
    }

    private void numbersToShow() {
        String sentence = sentences.under("Promise 3", "- `number`: -9999 to 9999");
        QueueMiddles x = new QueueMiddles();
        Checks.due(sentence + "greatest", 1, () -> x.show(0, 9999));
        Checks.due(sentence + "above", ARGUMENT, () -> x.show(0, 10000));
        Checks.due(sentence + "least", 2, () -> x.show(0, -9999));
        Checks.due(sentence + "below", ARGUMENT, () -> x.show(0, -10000));
        Checks.due(sentence + "row", "-9999:1-1 9999:2-2", () -> Scenes.row(x, 0));
    }

    private void rowArguments() {
        QueueMiddles x = new QueueMiddles();
        String first = sentences.under("Promise 4", "- `first`: -9999 to 9999");
        Checks.due(first + "greatest", 1, () -> x.showRow(0, 9999, 0, 1));
        Checks.due(first + "above", ARGUMENT, () -> x.showRow(0, 10000, 0, 1));
        Checks.due(first + "least", 2, () -> x.showRow(0, -9999, 0, 1));
        Checks.due(first + "below", ARGUMENT, () -> x.showRow(0, -10000, 0, 1));
        Checks.due(first + "row", "-9999:1-1 9999:2-2", () -> Scenes.row(x, 0));
        String step = sentences.under("Promise 4", "- `step`: 0 to 9999");
        Checks.due(step + "least", 3, () -> x.showRow(1, 7, 0, 3));
        Checks.due(step + "below", ARGUMENT, () -> x.showRow(1, 7, -1, 3));
        Checks.due(step + "row of the least", "7:1-1 7:2-2 7:3-3", () -> Scenes.row(x, 1));
        Checks.due(step + "greatest", 3, () -> x.showRow(2, -9999, 9999, 3));
        Checks.due(step + "above", ARGUMENT, () -> x.showRow(2, -9999, 10000, 3));
        Checks.due(step + "row of the greatest", "-9999:1-1 0:2-2 9999:3-3", () -> Scenes.row(x, 2));
        String many = sentences.under("Promise 4", "- `many`: 1 to 100");
        Checks.due(many + "least", 1, () -> x.showRow(3, 4, 1, 1));
        Checks.due(many + "below", ARGUMENT, () -> x.showRow(3, 4, 1, 0));
        Checks.due(many + "greatest", 101, () -> x.showRow(3, 5, 1, 100));
        Checks.due(many + "above", ARGUMENT, () -> x.showRow(3, 5, 1, 101));
        Checks.due(many + "the last one", 104, () -> x.value(3, 100));
    }

    /** Counter 0 has five marks, 10:1-1 20:2-2 55:3-6 60:7-7 100:11-11; 3 has 590 marks. */
    private void marks() {
        QueueMiddles x = new QueueMiddles();
        Scenes.mixed(x);
        int[][] due = {{0, 10, 1, 1}, {2, 55, 3, 6}, {4, 100, 11, 11}};
        for (int[] d : due) {
            Checks.due(sentences.under("Promise 11", MARK) + d[0], d[1], () -> x.value(0, d[0]));
            Checks.due(sentences.under("Promise 12", MARK) + d[0], d[2], () -> x.lowestRank(0, d[0]));
            Checks.due(sentences.under("Promise 13", MARK) + d[0], d[3], () -> x.highestRank(0, d[0]));
        }
        int[][] beside = {{0, -1}, {0, 5}, {1, -1}, {1, 0}, {3, 590}};
        for (int[] b : beside) {
            Checks.due(sentences.under("Promise 11", MARK) + b[1], INDEX, () -> x.value(b[0], b[1]));
            Checks.due(sentences.under("Promise 12", MARK) + b[1], INDEX, () -> x.lowestRank(b[0], b[1]));
            Checks.due(sentences.under("Promise 13", MARK) + b[1], INDEX, () -> x.highestRank(b[0], b[1]));
        }
    }

    private void marksOfFullOne() {
        QueueMiddles y = Scenes.full(3);
        Checks.due(sentences.under("Promise 11", MARK) + "last of a full one", 599, () -> y.value(3, 599));
        Checks.due(sentences.under("Promise 12", MARK) + "last of a full one", 600, () -> y.lowestRank(3, 599));
        Checks.due(sentences.under("Promise 13", MARK) + "last of a full one", 600, () -> y.highestRank(3, 599));
        Checks.due(sentences.under("Promise 11", MARK) + "behind a full one", INDEX, () -> y.value(3, 600));
        Checks.due(sentences.under("Promise 12", MARK) + "behind a full one", INDEX, () -> y.lowestRank(3, 600));
        Checks.due(sentences.under("Promise 13", MARK) + "behind a full one", INDEX, () -> y.highestRank(3, 600));
    }

    private void shares() {
        sentences.under("Terms", "A share is told in thousandths, 0 to 1000.");
        QueueMiddles x = Scenes.thinnedTen();
        int[][] due = {{0, 10}, {1000, 100}};
        for (int[] d : due) {
            Checks.due(sentences.under("Promise 15", SHARE) + d[0], d[1], () -> x.ask(0, d[0]));
            Checks.due(sentences.under("Promise 16", SHARE) + d[0], 0, () -> x.off(0, d[0]));
            Checks.due(sentences.under("Promise 17", SHARE) + d[0], 0, () -> x.reallyOff(0, d[0]));
        }
        for (int share : new int[] {-1, 1001}) {
            Checks.due(sentences.under("Promise 15", SHARE) + share, ARGUMENT, () -> x.ask(0, share));
            Checks.due(sentences.under("Promise 16", SHARE) + share, ARGUMENT, () -> x.off(0, share));
            Checks.due(sentences.under("Promise 17", SHARE) + share, ARGUMENT, () -> x.reallyOff(0, share));
        }
    }

    private void anyNumber() {
        QueueMiddles x = new QueueMiddles();
        x.showRow(0, 9999, 1, 2);
        int[][] due = {
            {Integer.MIN_VALUE, 0}, {Integer.MIN_VALUE + 1, 0}, {-10001, 0}, {-10000, 1}, {-9999, 1}, {0, 1},
            {9998, 1}, {9999, 2}, {10000, 2}, {Integer.MAX_VALUE - 1, 2}, {Integer.MAX_VALUE, 2},
        };
        for (int[] d : due) {
            Checks.due(sentences.under("Promise 18", NUMBER) + d[0], d[1], () -> x.atLeastUpTo(0, d[0]));
            Checks.due(sentences.under("Promise 19", NUMBER) + d[0], d[1], () -> x.atMostUpTo(0, d[0]));
            Checks.due(sentences.under("Promise 20", NUMBER) + d[0], d[1], () -> x.reallyUpTo(0, d[0]));
            Checks.due(sentences.under("Promise 18", NUMBER) + "none, " + d[0], 0, () -> x.atLeastUpTo(1, d[0]));
            Checks.due(sentences.under("Promise 19", NUMBER) + "none, " + d[0], 0, () -> x.atMostUpTo(1, d[0]));
            Checks.due(sentences.under("Promise 20", NUMBER) + "none, " + d[0], 0, () -> x.reallyUpTo(1, d[0]));
        }
    }
}
