import java.util.List;

/** Each call of the face with a counter yet to be named, all else in range, and what it answers in grown(). */
final class Face {
    /** A call on a counter. */
    interface Call {
        Object of(QueueMiddles x, int counter);
    }

    /** What a call on a counter answers in grown(). */
    interface Due {
        Object of(int counter);
    }

    /** One call; line is the document's line about the parameter that names the counter. */
    static final class Entry {
        final String heading;
        final String line;
        final Call call;
        final Due due;

        private Entry(int promise, String line, Call call, Due due) {
            this.heading = "Promise " + promise;
            this.line = line;
            this.call = call;
            this.due = due;
        }
    }

    static final String COUNTER = "- `counter`: 0 to 3";
    static final String FROM = "- `from`: the one that stays as it is";
    static final String INTO = "- `into`: the one that has the numbers of both then";

    static final List<Entry> CALLS = List.of(
            new Entry(2, COUNTER, (x, c) -> x.begin(c, 50), c -> many(c)),
            new Entry(3, COUNTER, (x, c) -> x.show(c, 0), c -> many(c) + 1),
            new Entry(4, COUNTER, (x, c) -> x.showRow(c, 0, 0, 2), c -> many(c) + 2),
            new Entry(5, COUNTER, (x, c) -> x.thinOut(c), c -> new int[] {0, 14, 25, 36}[c]),
            new Entry(6, FROM, (x, c) -> x.pour(c, other(c)), c -> many(c) + many(other(c))),
            new Entry(6, INTO, (x, c) -> x.pour(other(c), c), c -> many(c) + many(other(c))),
            new Entry(7, COUNTER, (x, c) -> x.count(c), c -> many(c)),
            new Entry(8, COUNTER, (x, c) -> x.bound(c), c -> 50 * c + 50),
            new Entry(9, COUNTER, (x, c) -> x.allowance(c), c -> (c + 1) * (c + 1)),
            new Entry(10, COUNTER, (x, c) -> x.marks(c), c -> many(c)),
            new Entry(11, COUNTER, (x, c) -> x.value(c, 0), c -> first(c)),
            new Entry(12, COUNTER, (x, c) -> x.lowestRank(c, 9), c -> 10),
            new Entry(13, COUNTER, (x, c) -> x.highestRank(c, 9), c -> 10),
            new Entry(14, COUNTER, (x, c) -> x.widest(c), c -> 1),
            new Entry(15, COUNTER, (x, c) -> x.ask(c, 1000), c -> first(c) + many(c) - 1),
            new Entry(16, COUNTER, (x, c) -> x.off(c, 500), c -> 0),
            new Entry(17, COUNTER, (x, c) -> x.reallyOff(c, 500), c -> 0),
            new Entry(18, COUNTER, (x, c) -> x.atLeastUpTo(c, first(c)), c -> 1),
            new Entry(19, COUNTER, (x, c) -> x.atMostUpTo(c, 9999), c -> many(c)),
            new Entry(20, COUNTER, (x, c) -> x.reallyUpTo(c, 9999), c -> many(c)),
            new Entry(21, COUNTER, (x, c) -> x.middle(c), c -> first(c) + many(c) / 2 - 1),
            new Entry(22, COUNTER, (x, c) -> x.middleByHeaps(c), c -> first(c) + many(c) / 2 - 1),
            new Entry(23, COUNTER, (x, c) -> x.part(c), c -> 1.0));

    private Face() {
    }

    /** Every counter has a bound, a number of numbers and a least number of its own. */
    static QueueMiddles grown() {
        QueueMiddles x = new QueueMiddles();
        for (int c = 0; c < 4; c++) {
            x.begin(c, 50 * c + 50);
            x.showRow(c, first(c), 1, many(c));
        }
        return x;
    }

    private static int many(int counter) {
        return 10 * (counter + 1);
    }

    private static int first(int counter) {
        return 100 * (counter + 1);
    }

    private static int other(int counter) {
        return counter == 0 ? 3 : 0;
    }
}
