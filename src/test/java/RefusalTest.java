import java.io.IOException;
import java.util.List;

/**
 * Each sentence of the document about a call that throws: which exception, also where several apply,
 * and that the object answers all it can be asked as if that call had not come.
 */
public final class RefusalTest {
    private static final String INDEX = "throws.IndexOutOfBoundsException";
    private static final String ARGUMENT = "throws.IllegalArgumentException";
    private static final String STATE = "throws.IllegalStateException";
    private static final String NO_COUNTER = "Throws `IndexOutOfBoundsException` if there is no such counter";
    private static final String NO_MARK = NO_COUNTER + " or mark";
    private static final String NO_SHARE = "Throws `IllegalArgumentException` if share is out of range";
    private static final String NO_NUMBERS = "Throws `IllegalStateException` if the counter has no numbers";
    private static final int[] BESIDE_COUNTERS = {-1, 4, Integer.MIN_VALUE, Integer.MAX_VALUE};
    private static final int[] BESIDE_SHARES = {-1, 1001, Integer.MIN_VALUE, Integer.MAX_VALUE};

    private final Sentences sentences = new Sentences();
    private final List<String> untouched = Whole.after(Scenes::mixed);

    private RefusalTest() throws IOException {
    }

    public static void main(String[] args) throws IOException {
        RefusalTest test = new RefusalTest();
        test.noSuchCounter();
        test.noSuchMark();
        test.boundOutOfRange();
        test.numberOutOfRange();
        test.rowArgumentOutOfRange();
        test.shareOutOfRange();
        test.sameCounter();
        test.noRoom();
        test.noRoomForRow();
        test.noRoomForPour();
        test.noNumbers();
        test.indexFirst();
        test.argumentBeforeState();
        test.changesNothing();
        test.sentences.demandAllThatStart("Throws ");
        test.sentences.finish();
    }

    /** Every call is made on a mixed object of its own, then all of them, one behind the other, on one. */
    private void refused(String sentence, String want, Whole.Question... calls) {
        for (int i = 0; i < calls.length; i++) {
            Whole.Question call = calls[i];
            QueueMiddles x = new QueueMiddles();
            Scenes.mixed(x);
            Checks.due(sentence + "call " + i, want, () -> call.of(x));
        }
        List<String> touched = Whole.after(x -> {
            Scenes.mixed(x);
            refuse(x, calls);
        });
        Whole.hold(sentence + "nothing changes, ", untouched, touched);
    }

    private static void refuse(QueueMiddles x, Whole.Question... calls) {
        for (Whole.Question call : calls) {
            Checks.outcome(() -> call.of(x));
        }
    }

    private void noSuchCounter() {
        for (Face.Entry entry : Face.CALLS) {
            boolean ofMark = List.of("Promise 11", "Promise 12", "Promise 13").contains(entry.heading);
            String sentence = sentences.under(entry.heading, ofMark ? NO_MARK : NO_COUNTER);
            Whole.Question[] calls = new Whole.Question[BESIDE_COUNTERS.length];
            for (int i = 0; i < calls.length; i++) {
                int none = BESIDE_COUNTERS[i];
                calls[i] = x -> entry.call.of(x, none);
            }
            refused(sentence, INDEX, calls);
        }
    }

    /** Counter 0 has 5 marks of 11 numbers, 1 had 9 and has none, 2 has fewer than 600. */
    private void noSuchMark() {
        refused(sentences.under("Promise 11", NO_MARK), INDEX, x -> x.value(0, -1), x -> x.value(0, 5),
                x -> x.value(0, 10), x -> x.value(1, 0), x -> x.value(1, -1), x -> x.value(2, x.marks(2)),
                x -> x.value(2, 599), x -> x.value(3, 590), x -> x.value(3, 600),
                x -> x.value(0, Integer.MIN_VALUE), x -> x.value(0, Integer.MAX_VALUE));
        refused(sentences.under("Promise 12", NO_MARK), INDEX, x -> x.lowestRank(0, -1), x -> x.lowestRank(0, 5),
                x -> x.lowestRank(0, 10), x -> x.lowestRank(1, 0), x -> x.lowestRank(1, -1),
                x -> x.lowestRank(2, x.marks(2)), x -> x.lowestRank(2, 599), x -> x.lowestRank(3, 590),
                x -> x.lowestRank(3, 600), x -> x.lowestRank(0, Integer.MIN_VALUE),
                x -> x.lowestRank(0, Integer.MAX_VALUE));
        refused(sentences.under("Promise 13", NO_MARK), INDEX, x -> x.highestRank(0, -1), x -> x.highestRank(0, 5),
                x -> x.highestRank(0, 10), x -> x.highestRank(1, 0), x -> x.highestRank(1, -1),
                x -> x.highestRank(2, x.marks(2)), x -> x.highestRank(2, 599), x -> x.highestRank(3, 590),
                x -> x.highestRank(3, 600), x -> x.highestRank(0, Integer.MIN_VALUE),
                x -> x.highestRank(0, Integer.MAX_VALUE));
    }

    private void boundOutOfRange() {
        String sentence = sentences.under("Promise 2", "Throws `IllegalArgumentException` if bound is out of range");
        refused(sentence, ARGUMENT, x -> x.begin(0, 4), x -> x.begin(0, 201), x -> x.begin(1, 0), x -> x.begin(2, -50),
                x -> x.begin(3, Integer.MIN_VALUE), x -> x.begin(3, Integer.MAX_VALUE));
    }

    /** -10000 is refused by counter 3, too, although it is one of its numbers. */
    private void numberOutOfRange() {
        String sentence = sentences.under("Promise 3", "Throws `IllegalArgumentException` if number is out of range");
        refused(sentence, ARGUMENT, x -> x.show(0, 10000), x -> x.show(0, -10000), x -> x.show(3, -10000),
                x -> x.show(1, Integer.MIN_VALUE), x -> x.show(1, Integer.MAX_VALUE));
    }

    private void rowArgumentOutOfRange() {
        String sentence = sentences.under("Promise 4",
                "Throws `IllegalArgumentException` if another argument is out of range");
        refused(sentence + "first, ", ARGUMENT, x -> x.showRow(0, -10000, 0, 1), x -> x.showRow(0, 10000, 0, 1),
                x -> x.showRow(3, -10000, 1, 1), x -> x.showRow(0, Integer.MIN_VALUE, 0, 1),
                x -> x.showRow(0, Integer.MAX_VALUE, 0, 1));
        refused(sentence + "step, ", ARGUMENT, x -> x.showRow(0, 0, -1, 1), x -> x.showRow(0, 0, 10000, 1),
                x -> x.showRow(1, 0, Integer.MIN_VALUE, 2), x -> x.showRow(1, 0, Integer.MAX_VALUE, 2));
        refused(sentence + "many, ", ARGUMENT, x -> x.showRow(0, 0, 0, 0), x -> x.showRow(0, 0, 0, 101),
                x -> x.showRow(0, 0, 0, -1), x -> x.showRow(1, 0, 0, Integer.MIN_VALUE),
                x -> x.showRow(1, 0, 0, Integer.MAX_VALUE));
    }

    private void shareOutOfRange() {
        Whole.Question[] asks = new Whole.Question[BESIDE_SHARES.length];
        Whole.Question[] offs = new Whole.Question[BESIDE_SHARES.length];
        Whole.Question[] reallyOffs = new Whole.Question[BESIDE_SHARES.length];
        for (int i = 0; i < BESIDE_SHARES.length; i++) {
            int share = BESIDE_SHARES[i];
            asks[i] = x -> x.ask(0, share);
            offs[i] = x -> x.off(0, share);
            reallyOffs[i] = x -> x.reallyOff(0, share);
        }
        refused(sentences.under("Promise 15", NO_SHARE), ARGUMENT, asks);
        refused(sentences.under("Promise 16", NO_SHARE), ARGUMENT, offs);
        refused(sentences.under("Promise 17", NO_SHARE), ARGUMENT, reallyOffs);
    }

    private void sameCounter() {
        String sentence = sentences.under("Promise 6", "Throws `IllegalArgumentException` if both are the same");
        refused(sentence, ARGUMENT, x -> x.pour(0, 0), x -> x.pour(1, 1), x -> x.pour(2, 2), x -> x.pour(3, 3));
    }

    /** Counter 2 has 600 numbers, but fewer marks. */
    private void noRoom() {
        String sentence = sentences.under("Promise 3", "Throws `IllegalStateException` if it has 600 numbers");
        refused(sentence, STATE, x -> x.show(2, 0), x -> x.show(2, 9999), x -> x.show(2, -9999));
        QueueMiddles x = Scenes.full(0);
        x.begin(0, 50);
        x.showRow(0, 0, 1, 99);
        for (int i = 0; i < 5; i++) {
            x.showRow(0, 0, 1, 100);
        }
        Checks.due(sentence + "it has 599", 600, () -> x.show(0, 0));
        Checks.due(sentence + "it has 600", STATE, () -> x.show(0, 0));
        Checks.due(sentence + "it begins anew", 600, () -> x.begin(0, 50));
        Checks.due(sentence + "it has none any more", 1, () -> x.show(0, 0));
    }

    /** Counter 2 has 600 numbers, 3 has 590. */
    private void noRoomForRow() {
        String sentence = sentences.under("Promise 4",
                "Throws `IllegalStateException` if it would have more than 600 numbers");
        refused(sentence, STATE, x -> x.showRow(2, 0, 0, 1), x -> x.showRow(2, 9999, 9999, 100),
                x -> x.showRow(3, 0, 1, 11), x -> x.showRow(3, 0, 1, 100));
        QueueMiddles x = new QueueMiddles();
        Scenes.mixed(x);
        Checks.due(sentence + "590 and 10", 600, () -> x.showRow(3, 0, 1, 10));
        Checks.due(sentence + "600 and 1", STATE, () -> x.showRow(3, 0, 1, 1));
        QueueMiddles y = new QueueMiddles();
        for (int i = 0; i < 5; i++) {
            y.showRow(0, 0, 1, 100);
        }
        Checks.due(sentence + "500 and 100", 600, () -> y.showRow(0, 0, 1, 100));
    }

    private void noRoomForPour() {
        String sentence = sentences.under("Promise 6",
                "Throws `IllegalStateException` if that would have more than 600 numbers");
        refused(sentence, STATE, x -> x.pour(0, 2), x -> x.pour(2, 0), x -> x.pour(0, 3), x -> x.pour(3, 0),
                x -> x.pour(2, 3), x -> x.pour(3, 2));
        QueueMiddles x = new QueueMiddles();
        Scenes.mixed(x);
        x.begin(0, 200);
        x.showRow(0, 1, 1, 10);
        Checks.due(sentence + "590 and 10", 600, () -> x.pour(0, 3));
        Checks.due(sentence + "600 and 10", STATE, () -> x.pour(0, 3));
        Checks.due(sentence + "none and 600", 600, () -> x.pour(2, 1));
        x.begin(1, 5);
        Checks.due(sentence + "600 and none", 600, () -> x.pour(1, 2));
    }

    /** Counter 1 has no numbers any more; a new object's counters never had one. */
    private void noNumbers() {
        refused(sentences.under("Promise 15", NO_NUMBERS), STATE, x -> x.ask(1, 0), x -> x.ask(1, 1000));
        refused(sentences.under("Promise 16", NO_NUMBERS), STATE, x -> x.off(1, 0), x -> x.off(1, 1000));
        refused(sentences.under("Promise 17", NO_NUMBERS), STATE, x -> x.reallyOff(1, 0), x -> x.reallyOff(1, 1000));
        refused(sentences.under("Promise 21", NO_NUMBERS), STATE, x -> x.middle(1));
        refused(sentences.under("Promise 22", NO_NUMBERS), STATE, x -> x.middleByHeaps(1));
        for (int counter = 0; counter < 4; counter++) {
            int c = counter;
            QueueMiddles x = new QueueMiddles();
            Checks.due(sentences.under("Promise 15", NO_NUMBERS) + "new", STATE, () -> x.ask(c, 500));
            Checks.due(sentences.under("Promise 16", NO_NUMBERS) + "new", STATE, () -> x.off(c, 500));
            Checks.due(sentences.under("Promise 17", NO_NUMBERS) + "new", STATE, () -> x.reallyOff(c, 500));
            Checks.due(sentences.under("Promise 21", NO_NUMBERS) + "new", STATE, () -> x.middle(c));
            Checks.due(sentences.under("Promise 22", NO_NUMBERS) + "new", STATE, () -> x.middleByHeaps(c));
        }
    }

    private String severalApply() {
        return sentences.under("Terms",
                "if several apply, the one that is named first in the throws clause is thrown");
    }

    private void indexFirst() {
        refused(severalApply() + "begin, ", INDEX, x -> x.begin(-1, 4), x -> x.begin(4, 201));
        refused(severalApply() + "show, ", INDEX, x -> x.show(-1, -10000), x -> x.show(4, 10000));
        refused(severalApply() + "showRow, ", INDEX, x -> x.showRow(-1, -10000, -1, 0),
                x -> x.showRow(4, 10000, 0, 1), x -> x.showRow(4, 0, 10000, 1), x -> x.showRow(4, 0, 0, 101));
        refused(severalApply() + "pour, ", INDEX, x -> x.pour(-1, -1), x -> x.pour(4, 4), x -> x.pour(2, 4),
                x -> x.pour(4, 2), x -> x.pour(-1, 3));
        refused(severalApply() + "share, ", INDEX, x -> x.ask(4, 1001), x -> x.ask(-1, -1), x -> x.off(4, 1001),
                x -> x.off(-1, -1), x -> x.reallyOff(4, 1001), x -> x.reallyOff(-1, -1));
    }

    /** Counter 1 has no numbers, 2 has 600, 3 has 590. */
    private void argumentBeforeState() {
        refused(severalApply() + "show, full, ", ARGUMENT, x -> x.show(2, -10000), x -> x.show(2, 10000));
        refused(severalApply() + "showRow, full, ", ARGUMENT, x -> x.showRow(2, -10000, 0, 1),
                x -> x.showRow(2, 10000, 0, 1), x -> x.showRow(2, 0, -1, 1), x -> x.showRow(2, 0, 10000, 1),
                x -> x.showRow(2, 0, 0, 0), x -> x.showRow(2, 0, 0, 101), x -> x.showRow(3, 0, 0, 101),
                x -> x.showRow(3, 0, 10000, 11));
        refused(severalApply() + "pour, full, ", ARGUMENT, x -> x.pour(2, 2), x -> x.pour(3, 3));
        refused(severalApply() + "share, no numbers, ", ARGUMENT, x -> x.ask(1, -1), x -> x.ask(1, 1001),
                x -> x.off(1, -1), x -> x.off(1, 1001), x -> x.reallyOff(1, -1), x -> x.reallyOff(1, 1001));
    }

    /** The same on an object that has nothing yet. */
    private void changesNothing() {
        String sentence = sentences.under("Terms", "A call that throws one changes nothing");
        List<String> touched = Whole.after(x -> refuse(x, y -> y.begin(0, 4), y -> y.begin(0, 201), y -> y.begin(4, 5),
                y -> y.show(0, 10000), y -> y.show(0, -10000), y -> y.show(-1, 0), y -> y.showRow(0, 0, 0, 101),
                y -> y.showRow(0, 0, -1, 100), y -> y.showRow(0, -10000, 0, 1), y -> y.showRow(4, 0, 0, 1),
                y -> y.thinOut(4), y -> y.pour(0, 0), y -> y.pour(0, 4), y -> y.pour(-1, 0), y -> y.value(0, 0),
                y -> y.lowestRank(0, 0), y -> y.highestRank(0, 0), y -> y.ask(0, 500), y -> y.off(0, 500),
                y -> y.reallyOff(0, 500), y -> y.middle(0), y -> y.middleByHeaps(0)));
        Whole.hold(sentence, Whole.after(x -> { }), touched);
    }
}
