/** Objects in states that several tests start from, and their marks as a text. */
final class Scenes {
    private Scenes() {
    }

    /** Marks as value:lowest-highest, one behind the other. */
    static String row(QueueMiddles x, int counter) {
        StringBuilder row = new StringBuilder();
        for (int i = 0; i < x.marks(counter); i++) {
            row.append(i == 0 ? "" : " ").append(x.value(counter, i)).append(':');
            row.append(x.lowestRank(counter, i)).append('-').append(x.highestRank(counter, i));
        }
        return row.toString();
    }

    /** Numbers 10, 20 .. 100 with the bound 200, thinned out, so that 10, 20, 60 and 100 stay. */
    static QueueMiddles thinnedTen() {
        QueueMiddles x = new QueueMiddles();
        x.begin(0, 200);
        x.showRow(0, 10, 10, 10);
        x.thinOut(0);
        return x;
    }

    /** Numbers 0 to 599, each once. */
    static QueueMiddles full(int counter) {
        QueueMiddles x = new QueueMiddles();
        fill(x, counter);
        return x;
    }

    static void fill(QueueMiddles x, int counter) {
        for (int i = 0; i < 6; i++) {
            x.showRow(counter, i, 6, 100);
        }
    }

    /**
     * 0 has eleven numbers and marks with spreads, 1 has none any more, 2 is full and thinned out,
     * 3 has 590 numbers, -10000 the least of them.
     */
    static void mixed(QueueMiddles x) {
        x.begin(0, 200);
        x.showRow(0, 10, 10, 10);
        x.thinOut(0);
        x.show(0, 55);
        x.showRow(1, 1, 1, 9);
        x.begin(1, 5);
        x.begin(2, 7);
        fill(x, 2);
        x.thinOut(2);
        for (int i = 0; i < 5; i++) {
            x.showRow(3, 9999 - i, 3333, 100);
        }
        x.showRow(3, 9950, 10, 90);
    }
}
