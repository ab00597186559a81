import java.io.IOException;
import java.util.List;

/**
 * Each sentence of the document about an edge within what is taken: a counter without numbers, a full one,
 * a row that goes round, equal numbers, a tie, what is rounded up or down. The answers are worked out by hand.
 */
public final class EdgeTest {
    private static final String ARGUMENT = "throws.IllegalArgumentException";
    private static final String INDEX = "throws.IndexOutOfBoundsException";
    private static final String STATE = "throws.IllegalStateException";
    private static final String MARKS_THEN = "Returns how many marks it has then.";

    private final Sentences sentences = new Sentences();

    private EdgeTest() throws IOException {
    }

    public static void main(String[] args) throws IOException {
        EdgeTest test = new EdgeTest();
        test.terms();
        test.askingTerms();
        test.changes();
        test.questions();
        test.uses();
        test.sentences.finish();
    }

    private void terms() {
        ranks();
        allowance();
        allowanceOfFewAndMany();
        shownAmongEquals();
        shownBehindAll();
        spreadOfNewMark();
        thinFromTheBack();
        thinAtTheAllowance();
        thinBySpread();
        firstAndLastStay();
        boundOfBoth();
        pouredFromStays();
        pouredEquals();
        pouredRanks();
    }

    private void askingTerms() {
        shareRoundedUp();
        offByTheGreater();
        firstOfSeveral();
    }

    private void changes() {
        newObject();
        hadNumbers();
        beginsAnew();
        beginsAnewAfterFull();
        marksAfterShow();
        rowGoesRound();
        rowHoldsLeastNumber();
        marksAfterRow();
        marksThatGo();
        pouredNumbers();
    }

    private void questions() {
        counted();
        widest();
        reallyOff();
        atLeast();
        atMost();
        really();
        middleRank();
        middleByHeaps();
        part();
    }

    private static QueueMiddles mixed() {
        QueueMiddles x = new QueueMiddles();
        Scenes.mixed(x);
        return x;
    }

    private static QueueMiddles shown(int bound, int... numbers) {
        QueueMiddles x = new QueueMiddles();
        x.begin(0, bound);
        for (int number : numbers) {
            x.show(0, number);
        }
        return x;
    }

    /** 1, eight times 2, and 3; thinned out by 4, the marks 1:1-1 2:2-2 2:6-6 3:10-10 stay. */
    private static QueueMiddles eightEquals() {
        QueueMiddles x = shown(200, 1, 3);
        x.showRow(0, 2, 0, 8);
        x.thinOut(0);
        return x;
    }

    private void ranks() {
        String sentence = sentences.under("Terms", "The rank of a number in a queue of n numbers, in rising order, is "
                + "1 to n; equal numbers have ranks one behind the other.");
        QueueMiddles x = eightEquals();
        Checks.due(sentence + "row", "1:1-1 2:2-2 2:6-6 3:10-10", () -> Scenes.row(x, 0));
        int[][] due = {{100, 1, 0, 0}, {200, 2, 0, 0}, {400, 2, 2, 0}, {800, 2, 2, 0}, {900, 3, 1, 1}, {1000, 3, 0, 0}};
        for (int[] d : due) {
            Checks.due(sentence + "answer at " + d[0], d[1], () -> x.ask(0, d[0]));
            Checks.due(sentence + "off at " + d[0], d[2], () -> x.off(0, d[0]));
            Checks.due(sentence + "really off at " + d[0], d[3], () -> x.reallyOff(0, d[0]));
        }
        QueueMiddles y = new QueueMiddles();
        y.showRow(0, 7, 0, 100);
        y.thinOut(0);
        for (int share = 0; share <= 1000; share += 5) {
            int s = share;
            Checks.due(sentence + "all equal, at " + s, 0, () -> y.reallyOff(0, s));
        }
    }

    private void allowance() {
        String sentence = sentences.under("Terms",
                "Its allowance is twice the bound times n, divided by 1000 and rounded down.");
        int[][] due = {
            {5, 1, 0}, {5, 99, 0}, {5, 100, 1}, {9, 55, 0}, {9, 56, 1}, {10, 49, 0}, {10, 50, 1}, {10, 99, 1},
            {10, 100, 2}, {50, 9, 0}, {50, 10, 1}, {50, 19, 1}, {50, 20, 2}, {83, 6, 0}, {83, 7, 1}, {200, 2, 0},
            {200, 3, 1}, {200, 4, 1}, {200, 5, 2}, {200, 100, 40}, {199, 100, 39},
        };
        for (int[] d : due) {
            QueueMiddles x = new QueueMiddles();
            x.begin(0, d[0]);
            x.showRow(0, 0, 7, d[1]);
            Checks.due(sentence + d[0] + " and " + d[1], d[2], () -> x.allowance(0));
        }
    }

    private void allowanceOfFewAndMany() {
        String sentence = sentences.under("Promise 9", "Returns the allowance of a counter.");
        QueueMiddles x = new QueueMiddles();
        int[][] due = {{5, 6}, {7, 8}, {50, 60}, {200, 240}};
        for (int[] d : due) {
            x.begin(0, d[0]);
            Checks.due(sentence + "no numbers", 0, () -> x.allowance(0));
            Scenes.fill(x, 0);
            Checks.due(sentence + "full", d[1], () -> x.allowance(0));
        }
        x.begin(1, 5);
        x.showRow(1, 0, 1, 100);
        x.begin(2, 200);
        x.showRow(2, 0, 1, 25);
        x.pour(2, 1);
        Checks.due(sentence + "of both", 50, () -> x.allowance(1));
        x.thinOut(1);
        Checks.due(sentence + "by numbers, not by marks", 50, () -> x.allowance(1));
    }

    /** Behind its equals a new number gets the spread of the next greater mark; ahead of them it would get theirs. */
    private void shownAmongEquals() {
        String sentence = sentences.under("Terms",
                "it becomes a mark of its own, with the gap 1, ahead of the first mark with a greater value");
        QueueMiddles x = Scenes.thinnedTen();
        x.show(0, 60);
        Checks.due(sentence + "60", "10:1-1 20:2-2 60:6-6 60:7-10 100:11-11", () -> Scenes.row(x, 0));
        x.show(0, 20);
        Checks.due(sentence + "20", "10:1-1 20:2-2 20:3-6 60:7-7 60:8-11 100:12-12", () -> Scenes.row(x, 0));
        x.show(0, 10);
        Checks.due(sentence + "10", "10:1-1 10:2-2 20:3-3 20:4-7 60:8-8 60:9-12 100:13-13", () -> Scenes.row(x, 0));
    }

    private void shownBehindAll() {
        String sentence = sentences.under("Terms", "behind all marks, if there is none, with the spread 0");
        QueueMiddles x = Scenes.thinnedTen();
        x.show(0, 100);
        Checks.due(sentence + "equal to the last", "10:1-1 20:2-2 60:6-6 100:10-10 100:11-11",
                () -> Scenes.row(x, 0));
        x.show(0, 101);
        Checks.due(sentence + "greater", "10:1-1 20:2-2 60:6-6 100:10-10 100:11-11 101:12-12",
                () -> Scenes.row(x, 0));
        x.show(1, -5);
        Checks.due(sentence + "no marks", "-5:1-1", () -> Scenes.row(x, 1));
        x.begin(0, 200);
        x.show(0, 1);
        Checks.due(sentence + "no marks any more", "1:1-1", () -> Scenes.row(x, 0));
    }

    private void spreadOfNewMark() {
        String sentence = sentences.under("Terms",
                "its spread is the gap and the spread of that one, together, less 1");
        QueueMiddles x = Scenes.thinnedTen();
        x.show(0, 9);
        Checks.due(sentence + "ahead of all", "9:1-1 10:2-2 20:3-3 60:7-7 100:11-11", () -> Scenes.row(x, 0));
        x.show(0, 99);
        Checks.due(sentence + "a gap", "9:1-1 10:2-2 20:3-3 60:7-7 99:8-11 100:12-12", () -> Scenes.row(x, 0));
        x.show(0, 98);
        Checks.due(sentence + "a gap and a spread", "9:1-1 10:2-2 20:3-3 60:7-7 98:8-11 99:9-12 100:13-13",
                () -> Scenes.row(x, 0));
    }

    private void thinFromTheBack() {
        String sentence = sentences.under("Terms",
                "To thin out means to go through the marks from the last but one back to the second one");
        QueueMiddles x = new QueueMiddles();
        x.begin(0, 200);
        Checks.due(sentence + "no marks", 0, () -> x.thinOut(0));
        x.show(0, 1);
        Checks.due(sentence + "one", 0, () -> x.thinOut(0));
        x.show(0, 2);
        Checks.due(sentence + "two", 0, () -> x.thinOut(0));
        x.show(0, 3);
        Checks.due(sentence + "three", 0, () -> x.thinOut(0));
        x.show(0, 4);
        Checks.due(sentence + "four", 0, () -> x.thinOut(0));
        x.show(0, 5);
        Checks.due(sentence + "five", 2, () -> x.thinOut(0));
        Checks.due(sentence + "five, row", "1:1-1 3:3-3 5:5-5", () -> Scenes.row(x, 0));
        QueueMiddles y = Scenes.thinnedTen();
        Checks.due(sentence + "from the back", "10:1-1 20:2-2 60:6-6 100:10-10", () -> Scenes.row(y, 0));
    }

    /** Of 100 numbers with the bound 10 the allowance is 2; of 99 it is 1, and no two gaps are less than 2. */
    private void thinAtTheAllowance() {
        String sentence = sentences.under("Terms", "if the gap of a mark, and the gap and the spread of the mark "
                + "behind it, all three together, are at most the allowance, it goes");
        QueueMiddles x = new QueueMiddles();
        x.begin(0, 10);
        x.showRow(0, 1, 1, 99);
        Checks.due(sentence + "one above the allowance", 0, () -> x.thinOut(0));
        x.show(0, 100);
        Checks.due(sentence + "just the allowance", 49, () -> x.thinOut(0));
        Checks.due(sentence + "the second one stays", 2, () -> x.lowestRank(0, 1));
        Checks.due(sentence + "no more go", 0, () -> x.thinOut(0));
        Checks.due(sentence + "the gap is added", 2, () -> x.widest(0));
    }

    /**
     * With 13 numbers the allowance is 5. Behind 20 stands 50 with the gap 1 and the spread 3: just 5.
     * With 11 numbers it is 4, and behind 20 stands 55 with the gap 1 and the spread 3: one above.
     */
    private void thinBySpread() {
        String sentence = sentences.under("Terms", "and its gap is added to that of the mark behind it");
        QueueMiddles x = Scenes.thinnedTen();
        x.show(0, 55);
        Checks.due(sentence + "one above the allowance", 0, () -> x.thinOut(0));
        Checks.due(sentence + "all stay", "10:1-1 20:2-2 55:3-6 60:7-7 100:11-11", () -> Scenes.row(x, 0));
        QueueMiddles y = Scenes.thinnedTen();
        y.show(0, 55);
        y.show(0, 50);
        y.show(0, 1000);
        Checks.due(sentence + "just the allowance", 3, () -> y.thinOut(0));
        Checks.due(sentence + "row", "10:1-1 50:3-6 60:8-8 1000:13-13", () -> Scenes.row(y, 0));
    }

    private void firstAndLastStay() {
        String sentence = sentences.under("Terms", "(so the first and the last mark always stay)");
        QueueMiddles x = Scenes.full(0);
        x.begin(0, 200);
        Scenes.fill(x, 0);
        x.thinOut(0);
        Checks.due(sentence + "row", "0:1-1 119:120-120 359:360-360 599:600-600", () -> Scenes.row(x, 0));
        QueueMiddles y = new QueueMiddles();
        y.begin(0, 200);
        y.showRow(0, 7, 0, 10);
        y.thinOut(0);
        Checks.due(sentence + "equals", "7:1-1 7:2-2 7:6-6 7:10-10", () -> Scenes.row(y, 0));
    }

    private void boundOfBoth() {
        String sentence = sentences.under("Terms", "the greater one of both bounds");
        int[][] due = {{5, 200, 200}, {200, 5, 200}, {80, 80, 80}, {49, 50, 50}, {51, 50, 51}};
        for (int[] d : due) {
            QueueMiddles x = new QueueMiddles();
            x.begin(1, d[0]);
            x.begin(2, d[1]);
            x.pour(1, 2);
            Checks.due(sentence + d[0] + " into " + d[1], d[2], () -> x.bound(2));
            Checks.due(sentence + "from stays", d[0], () -> x.bound(1));
        }
    }

    /** What is done to one of both afterwards does not reach the other one, either. */
    private void pouredFromStays() {
        String sentence = sentences.under("Terms", "the first one stays as it is");
        QueueMiddles x = Scenes.thinnedTen();
        x.show(1, 35);
        x.pour(0, 1);
        x.show(1, 5);
        x.thinOut(1);
        Checks.due(sentence + "marks", "10:1-1 20:2-2 60:6-6 100:10-10", () -> Scenes.row(x, 0));
        Checks.due(sentence + "numbers", 10, () -> x.count(0));
        Checks.due(sentence + "as they are", 3, () -> x.reallyUpTo(0, 35));
        Checks.due(sentence + "middle", 50, () -> x.middle(0));
        Checks.due(sentence + "middle by heaps", 50, () -> x.middleByHeaps(0));
        x.begin(0, 5);
        Checks.due(sentence + "nor does the other one change", 12, () -> x.count(1));
        Checks.due(sentence + "its middle", 40, () -> x.middleByHeaps(1));
    }

    private void pouredEquals() {
        String sentence = sentences.under("Terms",
                "of equal values those of the counter into which is poured stand ahead of the others");
        QueueMiddles x = shown(200, 1, 2, 3, 4, 5);
        x.thinOut(0);
        x.show(1, 3);
        x.pour(0, 2);
        x.pour(1, 2);
        Checks.due(sentence + "one into several", "1:1-1 3:3-3 3:4-5 5:6-6", () -> Scenes.row(x, 2));
        x.pour(0, 1);
        Checks.due(sentence + "several into one", "1:1-1 3:2-3 3:4-4 5:6-6", () -> Scenes.row(x, 1));
        QueueMiddles y = new QueueMiddles();
        y.begin(0, 200);
        y.showRow(0, 7, 0, 10);
        y.thinOut(0);
        y.showRow(1, 7, 0, 2);
        y.pour(1, 0);
        Checks.due(sentence + "all equal", "7:1-1 7:2-2 7:6-6 7:10-10 7:11-11 7:12-12", () -> Scenes.row(y, 0));
    }

    private void pouredRanks() {
        String lowest = sentences.under("Terms",
                "the lowest rank, there, of the last mark of the other counter ahead of it (0 without one)");
        String behind = sentences.under("Terms",
                "if a mark of the other counter stands behind it, the highest rank of the first such mark, less 1");
        String last = sentences.under("Terms",
                "otherwise the highest rank of the last mark of the other counter (0 without one)");
        QueueMiddles x = Scenes.thinnedTen();
        x.begin(1, 200);
        x.showRow(1, 5, 25, 5);
        x.thinOut(1);
        Checks.due(lowest + "own ranks", "5:1-1 55:3-3 105:5-5", () -> Scenes.row(x, 1));
        x.pour(1, 0);
        String both = "5:1-1 10:2-3 20:3-4 55:5-8 60:9-10 100:13-14 105:15-15";
        Checks.due(behind + "row", both, () -> Scenes.row(x, 0));
        QueueMiddles y = new QueueMiddles();
        y.showRow(0, 1, 1, 2);
        y.showRow(1, 5, 1, 2);
        y.pour(0, 2);
        y.pour(1, 2);
        Checks.due(last + "all behind", "1:1-1 2:2-2 5:3-3 6:4-4", () -> Scenes.row(y, 2));
        y.pour(0, 1);
        Checks.due(last + "all ahead", "1:1-1 2:2-2 5:3-3 6:4-4", () -> Scenes.row(y, 1));
        y.pour(3, 1);
        Checks.due(last + "from one without", "1:1-1 2:2-2 5:3-3 6:4-4", () -> Scenes.row(y, 1));
        x.pour(0, 3);
        Checks.due(last + "into one without", both, () -> Scenes.row(x, 3));
    }

    /** The numbers 0 to 599, none of them thinned out: the answer is the rank, less 1. */
    private void shareRoundedUp() {
        String sentence = sentences.under("Terms",
                "The rank that is asked for is the share of n, rounded up, but at least 1.");
        QueueMiddles x = Scenes.full(0);
        int[][] due = {
            {0, 1}, {1, 1}, {2, 2}, {3, 2}, {4, 3}, {5, 3}, {6, 4}, {10, 6}, {11, 7}, {500, 300}, {501, 301},
            {995, 597}, {996, 598}, {998, 599}, {999, 600}, {1000, 600},
        };
        for (int[] d : due) {
            Checks.due(sentence + "600 at " + d[0], d[1] - 1, () -> x.ask(0, d[0]));
        }
        QueueMiddles z = shown(50, 1, 2, 3, 4, 5, 6, 7, 8, 9, 10, 11);
        int[][] dueOfEleven = {{90, 1}, {91, 2}, {181, 2}, {182, 3}, {545, 6}, {546, 7}, {909, 10}, {910, 11}};
        for (int[] d : dueOfEleven) {
            Checks.due(sentence + "eleven at " + d[0], d[1], () -> z.ask(0, d[0]));
        }
        QueueMiddles y = shown(50, 42);
        for (int share : new int[] {0, 1, 500, 999, 1000}) {
            Checks.due(sentence + "one at " + share, 42, () -> y.ask(0, share));
        }
        y.show(0, 43);
        int[][] dueOfTwo = {{0, 42}, {1, 42}, {500, 42}, {501, 43}, {1000, 43}};
        for (int[] d : dueOfTwo) {
            Checks.due(sentence + "two at " + d[0], d[1], () -> y.ask(0, d[0]));
        }
    }

    /** 10:1-1 20:2-2 55:3-6 60:7-7 100:11-11, asked for each rank from 1 to 10. */
    private void offByTheGreater() {
        String sentence = sentences.under("Terms", "A mark is off by the greater one of these two: that rank less its "
                + "lowest one, and its highest one less that rank.");
        QueueMiddles x = Scenes.thinnedTen();
        x.show(0, 55);
        int[][] due = {
            {90, 10, 0}, {181, 20, 0}, {272, 20, 1}, {363, 20, 2}, {454, 55, 2}, {545, 60, 1}, {636, 60, 0},
            {727, 60, 1}, {818, 60, 2}, {909, 100, 1},
        };
        for (int[] d : due) {
            Checks.due(sentence + "answer at " + d[0], d[1], () -> x.ask(0, d[0]));
            Checks.due(sentence + "off at " + d[0], d[2], () -> x.off(0, d[0]));
        }
    }

    private void firstOfSeveral() {
        String sentence = sentences.under("Terms",
                "The answer is the mark that is off by least; of several the first one.");
        QueueMiddles x = Scenes.thinnedTen();
        Checks.due(sentence + "20 and 60", 20, () -> x.ask(0, 400));
        Checks.due(sentence + "20 and 60, off", 2, () -> x.off(0, 400));
        Checks.due(sentence + "60 nearer", 60, () -> x.ask(0, 401));
        Checks.due(sentence + "60 and 100", 60, () -> x.ask(0, 800));
        Checks.due(sentence + "60 and 100, off", 2, () -> x.off(0, 800));
        Checks.due(sentence + "100 nearer", 100, () -> x.ask(0, 801));
    }

    private void newObject() {
        String sentence = sentences.under("Promise 1", "Four counters without numbers, each with the bound 50.");
        QueueMiddles x = new QueueMiddles();
        for (int counter = 0; counter < 4; counter++) {
            int c = counter;
            Checks.due(sentence + "numbers of " + c, 0, () -> x.count(c));
            Checks.due(sentence + "bound of " + c, 50, () -> x.bound(c));
            Checks.due(sentence + "marks of " + c, 0, () -> x.marks(c));
            Checks.due(sentence + "room of " + c, 1, () -> x.show(c, 1));
        }
        Checks.due(sentence + "a fifth", INDEX, () -> x.count(4));
    }

    private void hadNumbers() {
        String sentence = sentences.under("Promise 2", "Returns how many numbers it had.");
        QueueMiddles x = mixed();
        Checks.due(sentence + "fewer marks", 11, () -> x.begin(0, 50));
        Checks.due(sentence + "none any more", 0, () -> x.begin(1, 50));
        Checks.due(sentence + "full and thinned out", 600, () -> x.begin(2, 50));
        Checks.due(sentence + "just begun", 0, () -> x.begin(2, 50));
        x.pour(3, 0);
        Checks.due(sentence + "poured", 590, () -> x.begin(0, 50));
    }

    private void beginsAnew() {
        String sentence = sentences.under("Promise 2", "Lets a counter begin anew.");
        List<String> anew = Whole.after(x -> {
            Scenes.mixed(x);
            for (int c = 0; c < 4; c++) {
                x.begin(c, 50);
            }
        });
        Whole.hold(sentence + "as new, ", Whole.after(x -> { }), anew);
        QueueMiddles x = mixed();
        x.begin(2, 50);
        Checks.due(sentence + "the others stay", "11 0 590", () -> x.count(0) + " " + x.count(1) + " " + x.count(3));
    }

    /** Neither old spreads nor old numbers come back, although no room was left beside them. */
    private void beginsAnewAfterFull() {
        String sentence = sentences.under("Promise 2", "Lets a counter begin anew.");
        QueueMiddles x = Scenes.thinnedTen();
        for (int i = 0; i < 5; i++) {
            x.showRow(0, 55, 0, 100);
        }
        x.showRow(0, 55, 0, 90);
        Checks.due(sentence + "full of spreads", 600, () -> x.begin(0, 200));
        x.showRow(0, 10, 10, 10);
        Checks.due(sentence + "no spreads", 1, () -> x.widest(0));
        QueueMiddles y = Scenes.full(0);
        y.begin(0, 50);
        y.showRow(0, 5, 0, 3);
        y.show(0, 3);
        Checks.due(sentence + "up to the lesser one", 1, () -> y.reallyUpTo(0, 3));
        Checks.due(sentence + "up to the greater one", 4, () -> y.reallyUpTo(0, 5));
        Checks.due(sentence + "up to an old one", 4, () -> y.reallyUpTo(0, 599));
        bothMiddles(sentence, 5, y, 0);
        y.begin(0, 50);
        Scenes.fill(y, 0);
        Checks.due(sentence + "full again, up to the last but one", 599, () -> y.reallyUpTo(0, 598));
        Checks.due(sentence + "full again, up to the last one", 600, () -> y.reallyUpTo(0, 599));
    }

    private void marksAfterShow() {
        String sentence = sentences.under("Promise 3", MARKS_THEN);
        QueueMiddles x = mixed();
        Checks.due(sentence + "fewer than numbers", 6, () -> x.show(0, 0));
        Checks.due(sentence + "the first one", 1, () -> x.show(1, 0));
        QueueMiddles y = new QueueMiddles();
        for (int i = 0; i < 5; i++) {
            y.showRow(0, 3, 0, 100);
        }
        y.showRow(0, 3, 0, 99);
        Checks.due(sentence + "the last one", 600, () -> y.show(0, 3));
        Checks.due(sentence + "no further one", STATE, () -> y.show(0, 3));
    }

    private void rowGoesRound() {
        String sentence = sentences.under("Promise 4",
                "but 20000 less as soon as it would be above 9999");
        int[][] arguments = {
            {9990, 9, 2}, {9990, 10, 2}, {9999, 0, 3}, {9999, 1, 3}, {9998, 1, 3}, {-9999, 9999, 5}, {9999, 9999, 6},
            {0, 5000, 7},
        };
        String[] rows = {
            "9990:1-1 9999:2-2", "-10000:1-1 9990:2-2", "9999:1-1 9999:2-2 9999:3-3", "-10000:1-1 -9999:2-2 9999:3-3",
            "-10000:1-1 9998:2-2 9999:3-3", "-9999:1-1 -2:2-2 0:3-3 9997:4-4 9999:5-5",
            "-6:1-1 -4:2-2 -2:3-3 9995:4-4 9997:5-5 9999:6-6",
            "-10000:1-1 -10000:2-2 -5000:3-3 0:4-4 0:5-5 5000:6-6 5000:7-7",
        };
        for (int i = 0; i < arguments.length; i++) {
            int[] a = arguments[i];
            QueueMiddles x = new QueueMiddles();
            x.showRow(0, a[0], a[1], a[2]);
            Checks.due(sentence + "row " + i, rows[i], () -> Scenes.row(x, 0));
        }
    }

    private void rowHoldsLeastNumber() {
        String sentence = sentences.under("Promise 4", "(so it can be -10000, too, which show() does not take)");
        QueueMiddles x = new QueueMiddles();
        x.showRow(0, 9999, 1, 2);
        Checks.due(sentence + "it is", -10000, () -> x.value(0, 0));
        Checks.due(sentence + "show does not take it", ARGUMENT, () -> x.show(0, -10000));
        Checks.due(sentence + "nor does it as a first one", ARGUMENT, () -> x.showRow(0, -10000, 1, 1));
        Checks.due(sentence + "asked", -10000, () -> x.ask(0, 500));
        Checks.due(sentence + "really off", 0, () -> x.reallyOff(0, 500));
        Checks.due(sentence + "less than it", 0, () -> x.reallyUpTo(0, -10001));
        Checks.due(sentence + "up to it", 1, () -> x.reallyUpTo(0, -10000));
        Checks.due(sentence + "middle", -10000, () -> x.middle(0));
        Checks.due(sentence + "middle by heaps", -10000, () -> x.middleByHeaps(0));
        x.pour(0, 1);
        Checks.due(sentence + "poured", "-10000:1-1 9999:2-2", () -> Scenes.row(x, 1));
        Checks.due(sentence + "poured, middle by heaps", -10000, () -> x.middleByHeaps(1));
    }

    private void marksAfterRow() {
        String sentence = sentences.under("Promise 4", MARKS_THEN);
        QueueMiddles x = mixed();
        Checks.due(sentence + "fewer than numbers", 8, () -> x.showRow(0, 0, 1, 3));
        Checks.due(sentence + "none before", 1, () -> x.showRow(1, 0, 0, 1));
        Checks.due(sentence + "full then", 600, () -> x.showRow(3, 0, 0, 10));
    }

    private void marksThatGo() {
        String sentence = sentences.under("Promise 5", "Returns how many marks go.");
        QueueMiddles x = new QueueMiddles();
        Checks.due(sentence + "no numbers", 0, () -> x.thinOut(0));
        x.begin(0, 5);
        Scenes.fill(x, 0);
        Checks.due(sentence + "full, least bound", 499, () -> x.thinOut(0));
        Checks.due(sentence + "those that stay", 101, () -> x.marks(0));
        Checks.due(sentence + "numbers stay", 600, () -> x.count(0));
        x.begin(0, 200);
        Scenes.fill(x, 0);
        Checks.due(sentence + "full, greatest bound", 596, () -> x.thinOut(0));
        Checks.due(sentence + "again", 0, () -> x.thinOut(0));
    }

    private void pouredNumbers() {
        String sentence = sentences.under("Promise 6", "Returns how many numbers that has then.");
        QueueMiddles x = new QueueMiddles();
        Checks.due(sentence + "neither has any", 0, () -> x.pour(0, 1));
        for (int i = 0; i < 3; i++) {
            x.showRow(0, i, 3, 100);
            x.showRow(1, i, 3, 100);
        }
        x.thinOut(0);
        x.thinOut(1);
        Checks.due(sentence + "none into 300", 300, () -> x.pour(2, 1));
        Checks.due(sentence + "300 into none", 300, () -> x.pour(0, 2));
        Checks.due(sentence + "300 into 300", 600, () -> x.pour(0, 1));
        Checks.due(sentence + "none into 600", 600, () -> x.pour(3, 1));
        x.show(0, 0);
        Checks.due(sentence + "301 into 300", STATE, () -> x.pour(0, 2));
        Checks.due(sentence + "300 into 301", STATE, () -> x.pour(2, 0));
        Checks.due(sentence + "301 into 600", STATE, () -> x.pour(0, 1));
        Checks.due(sentence + "really", 200, () -> x.reallyUpTo(1, 99));
    }

    private void counted() {
        String counts = sentences.under("Promise 7", "Returns how many numbers a counter was shown.");
        String marks = sentences.under("Promise 10", "Returns how many marks a counter has.");
        QueueMiddles x = mixed();
        int[] dueCounts = {11, 0, 600, 590};
        int[] dueMarks = {5, 0, 76, 590};
        for (int counter = 0; counter < 4; counter++) {
            int c = counter;
            Checks.due(counts + "counter " + c, dueCounts[c], () -> x.count(c));
            Checks.due(marks + "counter " + c, dueMarks[c], () -> x.marks(c));
        }
    }

    private void widest() {
        String sentence = sentences.under("Promise 14", "Returns the sum, 0 without marks.");
        QueueMiddles x = new QueueMiddles();
        Checks.due(sentence + "new", 0, () -> x.widest(0));
        x.show(0, 5);
        Checks.due(sentence + "one mark", 1, () -> x.widest(0));
        x.begin(0, 5);
        Checks.due(sentence + "begun anew", 0, () -> x.widest(0));
        String greatest = sentences.under("Promise 14",
                "Returns the greatest sum of the gap and the spread of a mark.");
        QueueMiddles y = Scenes.thinnedTen();
        Checks.due(greatest + "the last mark", 4, () -> y.widest(0));
        y.show(1, 65);
        y.pour(1, 0);
        Checks.due(greatest + "a gap alone, a gap and a spread", "10:1-1 20:2-2 60:6-6 65:7-10 100:11-11 4",
                () -> Scenes.row(y, 0) + " " + y.widest(0));
        y.begin(1, 200);
        y.showRow(1, 61, 1, 5);
        y.thinOut(1);
        y.pour(1, 0);
        Checks.due(greatest + "gap and spread", "10:1-1 20:2-2 60:6-6 61:7-10 63:9-12 65:10-14 65:12-15 100:16-16 5",
                () -> Scenes.row(y, 0) + " " + y.widest(0));
    }

    private void reallyOff() {
        String zero = sentences.under("Promise 17", "0 if a number of this value has that rank");
        String nearest = sentences.under("Promise 17",
                "how far the rank that is asked for is from the nearest rank that a number of this value has");
        QueueMiddles x = eightEquals();
        Checks.due(zero + "at the first of the equals", 0, () -> x.reallyOff(0, 200));
        Checks.due(zero + "between them", 0, () -> x.reallyOff(0, 800));
        Checks.due(nearest + "one ahead", 1, () -> x.reallyOff(0, 900));
        QueueMiddles y = Scenes.thinnedTen();
        int[][] due = {{200, 0}, {300, 1}, {400, 2}, {500, 1}, {600, 0}, {700, 1}, {800, 2}, {900, 1}, {1000, 0}};
        for (int[] d : due) {
            Checks.due(nearest + "at " + d[0], d[1], () -> y.reallyOff(0, d[0]));
        }
    }

    private void atLeast() {
        String last = sentences.under("Promise 18", "the lowest rank of the last mark whose value is not greater");
        String none = sentences.under("Promise 18", "Returns how many, 0 if there is no such mark.");
        QueueMiddles x = eightEquals();
        int[][] due = {{1, 1}, {2, 6}, {3, 10}, {4, 10}};
        for (int[] d : due) {
            Checks.due(last + "up to " + d[0], d[1], () -> x.atLeastUpTo(0, d[0]));
        }
        Checks.due(none + "less than all", 0, () -> x.atLeastUpTo(0, 0));
        Checks.due(none + "no marks", 0, () -> x.atLeastUpTo(1, 5));
    }

    private void atMost() {
        String first = sentences.under("Promise 19",
                "the highest rank of the first mark whose value is greater, less 1");
        String none = sentences.under("Promise 19",
                "Returns how many; as many as the counter has numbers if there is no such mark.");
        QueueMiddles x = eightEquals();
        int[][] due = {{0, 0}, {1, 1}, {2, 9}};
        for (int[] d : due) {
            Checks.due(first + "up to " + d[0], d[1], () -> x.atMostUpTo(0, d[0]));
        }
        QueueMiddles y = Scenes.thinnedTen();
        y.show(0, 55);
        Checks.due(first + "a spread", 5, () -> y.atMostUpTo(0, 54));
        Checks.due(first + "behind the spread", 6, () -> y.atMostUpTo(0, 55));
        Checks.due(none + "the greatest one", 10, () -> x.atMostUpTo(0, 3));
        Checks.due(none + "above it", 10, () -> x.atMostUpTo(0, 4));
        Checks.due(none + "no numbers", 0, () -> x.atMostUpTo(1, 5));
    }

    private void really() {
        String sentence = sentences.under("Promise 20", "Tells how many there really are.");
        QueueMiddles x = eightEquals();
        int[][] due = {{0, 0}, {1, 1}, {2, 9}, {3, 10}, {4, 10}};
        for (int[] d : due) {
            Checks.due(sentence + "up to " + d[0], d[1], () -> x.reallyUpTo(0, d[0]));
        }
        Checks.due(sentence + "no numbers", 0, () -> x.reallyUpTo(1, 5));
        QueueMiddles y = Scenes.full(2);
        Checks.due(sentence + "full, up to the last but one", 599, () -> y.reallyUpTo(2, 598));
        Checks.due(sentence + "full, up to the last one", 600, () -> y.reallyUpTo(2, 599));
    }

    private void bothMiddles(String sentence, Object due, QueueMiddles x, int counter) {
        Checks.due(sentence + "in their order", due, () -> x.middle(counter));
        Checks.due(sentence + "by heaps", due, () -> x.middleByHeaps(counter));
    }

    private void middleRank() {
        String sentence = sentences.under("Promise 21",
                "Returns the middle of all numbers: that with the rank n / 2, rounded up");
        int[] shown = {5, -7, 9999, 0, -9999, 5, 5};
        int[] due = {5, -7, 5, 0, 0, 0, 5};
        QueueMiddles x = new QueueMiddles();
        for (int i = 0; i < shown.length; i++) {
            x.show(0, shown[i]);
            bothMiddles(sentence + (i + 1) + " numbers, ", due[i], x, 0);
        }
        QueueMiddles y = new QueueMiddles();
        for (int i = 0; i < 5; i++) {
            y.showRow(0, 100 * i, 1, 100);
        }
        y.showRow(0, 500, 1, 99);
        bothMiddles(sentence + "599, ", 299, y, 0);
        y.show(0, 599);
        bothMiddles(sentence + "full, ", 299, y, 0);
        y.thinOut(0);
        bothMiddles(sentence + "thinned out, ", 299, y, 0);
    }

    /** Rising, falling and equal numbers each lean on another one of the heaps. */
    private void middleByHeaps() {
        String sentence = sentences.under("Promise 22", "Returns the same number, found by two heaps, "
                + "the lesser half in one and the greater half in the other one.");
        QueueMiddles x = new QueueMiddles();
        for (int i = 0; i < 50; i++) {
            x.show(0, i);
            x.show(1, -i);
            x.show(2, 4);
            bothMiddles(sentence + "rising to " + i + ", ", i / 2, x, 0);
            bothMiddles(sentence + "falling to " + -i + ", ", -i + i / 2, x, 1);
        }
        bothMiddles(sentence + "equal, ", 4, x, 2);
        x.pour(0, 3);
        x.pour(1, 3);
        bothMiddles(sentence + "poured, ", 0, x, 3);
        x.showRow(3, 9999, 0, 2);
        bothMiddles(sentence + "two more, ", 0, x, 3);
        x.showRow(3, 9999, 0, 2);
        bothMiddles(sentence + "two more again, ", 1, x, 3);
    }

    private void part() {
        String sentence = sentences.under("Promise 23", "0.0 without numbers");
        QueueMiddles x = mixed();
        Checks.due(sentence, 0.0, () -> x.part(1));
        Checks.due(sentence + "new", 0.0, () -> new QueueMiddles().part(3));
        String divided = sentences.under("Promise 23",
                "Returns the number of marks, as a double, divided by that of numbers");
        x.begin(1, 50);
        x.show(1, 0);
        Checks.due(divided + "1 of 1", 1.0, () -> x.part(1));
        Checks.due(divided + "5 of 11", 5.0 / 11.0, () -> x.part(0));
        Checks.due(divided + "76 of 600", 76.0 / 600.0, () -> x.part(2));
        Checks.due(divided + "all", 1.0, () -> x.part(3));
    }

    private void uses() {
        String sentence = sentences.under("What it is",
                "An object is used for at most 512 calls after it has been made");
        QueueMiddles x = new QueueMiddles();
        for (int i = 1; i < 512; i++) {
            x.show(0, i);
        }
        Checks.due(sentence + "the last one of many shows", 512, () -> x.show(0, 512));
        QueueMiddles y = Scenes.full(0);
        for (int i = 7; i < 512; i++) {
            y.begin(1, 50);
        }
        Checks.due(sentence + "the last one of many begins", 60, () -> y.allowance(0));
        QueueMiddles z = Scenes.full(0);
        for (int i = 7; i < 512; i++) {
            Checks.outcome(() -> z.pour(0, 1));
        }
        Checks.due(sentence + "the last one of many refusals", STATE, () -> z.pour(0, 1));
    }
}
