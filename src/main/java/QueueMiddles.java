/** Middles of queues that have no end, from a few marks. */
public final class QueueMiddles {
    private static final int COUNTERS = 4;
    private static final int MOST_NUMBERS = 600;
    private static final int FIRST_BOUND = 50;
    private static final int LEAST_BOUND = 5;
    private static final int GREATEST_BOUND = 200;
    private static final int GREATEST_NUMBER = 9999;
    private static final int NUMBERS_ROUND = 20000;
    private static final int GREATEST_STEP = 9999;
    private static final int LONGEST_ROW = 100;
    private static final int WHOLE = 1000;

    private final Counter[] counters;

    public QueueMiddles() {
        counters = new Counter[COUNTERS];
        for (int i = 0; i < counters.length; i++) {
            counters[i] = new Counter();
        }
    }

    public int begin(int counter, int bound) throws IndexOutOfBoundsException, IllegalArgumentException {
        Counter asked = counterAt(counter);
        demandInRange(bound >= LEAST_BOUND && bound <= GREATEST_BOUND);
        int had = asked.numbers.total();
        asked.beginAnew(bound);
        return had;
    }

    public int show(int counter, int number)
            throws IndexOutOfBoundsException, IllegalArgumentException, IllegalStateException {
        Counter asked = counterAt(counter);
        demandInRange(isNumber(number));
        asked.demandRoomFor(1);
        asked.take(number);
        return asked.row.length();
    }

    public int showRow(int counter, int first, int step, int many)
            throws IndexOutOfBoundsException, IllegalArgumentException, IllegalStateException {
        Counter asked = counterAt(counter);
        demandInRange(isNumber(first));
        demandInRange(step >= 0 && step <= GREATEST_STEP);
        demandInRange(many >= 1 && many <= LONGEST_ROW);
        asked.demandRoomFor(many);
        int number = first;
        for (int i = 0; i < many; i++) {
            asked.take(number);
            number += step;
            if (number > GREATEST_NUMBER) {
                number -= NUMBERS_ROUND;
            }
        }
        return asked.row.length();
    }

    public int thinOut(int counter) throws IndexOutOfBoundsException {
        Counter asked = counterAt(counter);
        int had = asked.row.length();
        asked.row.thin(asked.allowed());
        return had - asked.row.length();
    }

    public int pour(int from, int into)
            throws IndexOutOfBoundsException, IllegalArgumentException, IllegalStateException {
        Counter source = counterAt(from);
        Counter target = counterAt(into);
        if (from == into) {
            throw new IllegalArgumentException("both counters are the same");
        }
        target.demandRoomFor(source.numbers.total());
        target.takeAll(source);
        return target.numbers.total();
    }

    public int count(int counter) throws IndexOutOfBoundsException {
        return counterAt(counter).numbers.total();
    }

    public int bound(int counter) throws IndexOutOfBoundsException {
        return counterAt(counter).thousandths;
    }

    public int allowance(int counter) throws IndexOutOfBoundsException {
        return counterAt(counter).allowed();
    }

    public int marks(int counter) throws IndexOutOfBoundsException {
        return counterAt(counter).row.length();
    }

    public int value(int counter, int mark) throws IndexOutOfBoundsException {
        return rowWith(counter, mark).valueOf(mark);
    }

    public int lowestRank(int counter, int mark) throws IndexOutOfBoundsException {
        return rowWith(counter, mark).rankFrom(mark);
    }

    public int highestRank(int counter, int mark) throws IndexOutOfBoundsException {
        return rowWith(counter, mark).rankTo(mark);
    }

    public int widest(int counter) throws IndexOutOfBoundsException {
        return counterAt(counter).row.greatestWidth();
    }

    public int ask(int counter, int share)
            throws IndexOutOfBoundsException, IllegalArgumentException, IllegalStateException {
        Counter asked = counterForShare(counter, share);
        return asked.row.valueOf(asked.row.answering(asked.rankAt(share)));
    }

    public int off(int counter, int share)
            throws IndexOutOfBoundsException, IllegalArgumentException, IllegalStateException {
        Counter asked = counterForShare(counter, share);
        int rank = asked.rankAt(share);
        return asked.row.offBy(asked.row.answering(rank), rank);
    }

    public int reallyOff(int counter, int share)
            throws IndexOutOfBoundsException, IllegalArgumentException, IllegalStateException {
        Counter asked = counterForShare(counter, share);
        int rank = asked.rankAt(share);
        int answer = asked.row.valueOf(asked.row.answering(rank));
        int firstRank = asked.numbers.notAbove(answer - 1) + 1;
        int lastRank = asked.numbers.notAbove(answer);
        if (rank < firstRank) {
            return firstRank - rank;
        }
        return rank > lastRank ? rank - lastRank : 0;
    }

    public int atLeastUpTo(int counter, int number) throws IndexOutOfBoundsException {
        return counterAt(counter).row.atLeastNotAbove(number);
    }

    public int atMostUpTo(int counter, int number) throws IndexOutOfBoundsException {
        Counter asked = counterAt(counter);
        int above = asked.row.firstAbove(number);
        return above < asked.row.length() ? asked.row.rankTo(above) - 1 : asked.numbers.total();
    }

    public int reallyUpTo(int counter, int number) throws IndexOutOfBoundsException {
        return counterAt(counter).numbers.notAbove(number);
    }

    public int middle(int counter) throws IndexOutOfBoundsException, IllegalStateException {
        Counter asked = counterAt(counter);
        asked.demandNumbers();
        return asked.numbers.withRank((asked.numbers.total() + 1) / 2);
    }

    public int middleByHeaps(int counter) throws IndexOutOfBoundsException, IllegalStateException {
        Counter asked = counterAt(counter);
        asked.demandNumbers();
        return asked.halves.greatestOfLesser();
    }

    public double part(int counter) throws IndexOutOfBoundsException {
        Counter asked = counterAt(counter);
        int total = asked.numbers.total();
        return total > 0 ? (double) asked.row.length() / total : 0.0;
    }

    private Counter counterAt(int counter) {
        if (counter < 0 || counter >= counters.length) {
            throw new IndexOutOfBoundsException("no such counter");
        }
        return counters[counter];
    }

    private MarkRow rowWith(int counter, int mark) {
        MarkRow row = counterAt(counter).row;
        if (mark < 0 || mark >= row.length()) {
            throw new IndexOutOfBoundsException("no such mark");
        }
        return row;
    }

    private Counter counterForShare(int counter, int share) {
        Counter asked = counterAt(counter);
        demandInRange(share >= 0 && share <= WHOLE);
        asked.demandNumbers();
        return asked;
    }

    private static boolean isNumber(int number) {
        return number >= -GREATEST_NUMBER && number <= GREATEST_NUMBER;
    }

    private static void demandInRange(boolean inRange) {
        if (!inRange) {
            throw new IllegalArgumentException("an argument is out of range");
        }
    }

    /** One counter: its marks, and beside them all its numbers, so that the marks can be judged. */
    private static final class Counter {
        private final MarkRow row = new MarkRow();
        private final Tally numbers = new Tally();
        private final Halves halves = new Halves();
        private int thousandths = FIRST_BOUND;

        void beginAnew(int bound) {
            thousandths = bound;
            row.clear();
            numbers.clear();
            halves.clear();
        }

        void demandRoomFor(int more) {
            if (numbers.total() + more > MOST_NUMBERS) {
                throw new IllegalStateException("the counter would have too many numbers");
            }
        }

        void demandNumbers() {
            if (numbers.total() <= 0) {
                throw new IllegalStateException("the counter has no numbers");
            }
        }

        int allowed() {
            return 2 * thousandths * numbers.total() / WHOLE;
        }

        int rankAt(int share) {
            return Math.max(1, (share * numbers.total() + WHOLE - 1) / WHOLE);
        }

        void take(int number) {
            row.add(number);
            numbers.add(number, 1);
            halves.add(number);
        }

        void takeAll(Counter other) {
            thousandths = Math.max(thousandths, other.thousandths);
            row.mergeWith(other.row);
            for (int i = 0; i < other.numbers.kinds(); i++) {
                int number = other.numbers.numberAt(i);
                int times = other.numbers.timesAt(i);
                numbers.add(number, times);
                for (int k = 0; k < times; k++) {
                    halves.add(number);
                }
            }
        }
    }

    /** Marks in the order of their values. */
    private static final class MarkRow {
        private final Row values = new Row();
        private final Row gaps = new Row();
        private final Row spreads = new Row();

        int length() {
            return values.size();
        }

        void clear() {
            cutTo(0);
        }

        int valueOf(int mark) {
            return values.at(mark);
        }

        int rankFrom(int mark) {
            return gaps.sumOfFirst(mark + 1);
        }

        int rankTo(int mark) {
            return rankFrom(mark) + spreads.at(mark);
        }

        int widthOf(int mark) {
            return gaps.at(mark) + spreads.at(mark);
        }

        int greatestWidth() {
            int greatest = 0;
            for (int i = 0; i < length(); i++) {
                greatest = Math.max(greatest, widthOf(i));
            }
            return greatest;
        }

        int firstAbove(int number) {
            return values.notAbove(number);
        }

        int atLeastNotAbove(int number) {
            return gaps.sumOfFirst(values.notAbove(number));
        }

        int offBy(int mark, int rank) {
            return Math.max(rank - rankFrom(mark), rankTo(mark) - rank);
        }

        int answering(int rank) {
            int best = 0;
            int leastOff = offBy(0, rank);
            int lowest = rankFrom(0);
            for (int i = 1; i < length(); i++) {
                lowest += gaps.at(i);
                int offHere = Math.max(rank - lowest, lowest + spreads.at(i) - rank);
                if (offHere < leastOff) {
                    leastOff = offHere;
                    best = i;
                }
            }
            return best;
        }

        void add(int number) {
            int place = firstAbove(number);
            int spread = place < length() ? widthOf(place) - 1 : 0;
            values.insert(place, number);
            gaps.insert(place, 1);
            spreads.insert(place, spread);
        }

        /** A mark that goes gets the gap 0, which no mark that stays has. */
        void thin(int allowed) {
            int behind = length() - 1;
            for (int i = length() - 2; i >= 1; i--) {
                if (gaps.at(i) + widthOf(behind) <= allowed) {
                    gaps.put(behind, gaps.at(behind) + gaps.at(i));
                    gaps.put(i, 0);
                } else {
                    behind = i;
                }
            }
            dropWithoutGap();
        }

        private void dropWithoutGap() {
            int kept = 0;
            for (int i = 0; i < length(); i++) {
                if (gaps.at(i) > 0) {
                    write(kept, values.at(i), gaps.at(i), spreads.at(i));
                    kept++;
                }
            }
            cutTo(kept);
        }

        /**
         * Goes from the back, where there is room, so that no own mark is written over before it is read.
         * The ranks that POURING asks for leave each gap as it is, for a lowest rank there is the sum of all
         * gaps up to the mark, of both counters; and to each spread they add the width, less 1, of the first
         * mark of the other counter behind it, or the spread of that counter's last mark.
         */
        void mergeWith(MarkRow other) {
            int own = length() - 1;
            int others = other.length() - 1;
            int ownAdds = spreads.at(own);
            int othersAdd = other.spreads.at(others);
            growTo(length() + other.length());
            for (int place = length() - 1; place >= 0; place--) {
                if (others >= 0 && (own < 0 || other.values.at(others) >= values.at(own))) {
                    write(place, other.values.at(others), other.gaps.at(others), other.spreads.at(others) + ownAdds);
                    othersAdd = other.widthOf(others) - 1;
                    others--;
                } else {
                    int width = widthOf(own);
                    write(place, values.at(own), gaps.at(own), spreads.at(own) + othersAdd);
                    ownAdds = width - 1;
                    own--;
                }
            }
        }

        private void write(int mark, int value, int gap, int spread) {
            values.put(mark, value);
            gaps.put(mark, gap);
            spreads.put(mark, spread);
        }

        private void cutTo(int size) {
            values.cutTo(size);
            gaps.cutTo(size);
            spreads.cutTo(size);
        }

        private void growTo(int size) {
            values.growTo(size);
            gaps.growTo(size);
            spreads.growTo(size);
        }
    }

    /** All numbers of a counter as they really are: each kind once, in rising order, and how often it came. */
    private static final class Tally {
        private final Row kinds = new Row();
        private final Row times = new Row();
        private int total;

        void clear() {
            kinds.cutTo(0);
            times.cutTo(0);
            total = 0;
        }

        int total() {
            return total;
        }

        int kinds() {
            return kinds.size();
        }

        int numberAt(int kind) {
            return kinds.at(kind);
        }

        int timesAt(int kind) {
            return times.at(kind);
        }

        void add(int number, int many) {
            int place = kinds.notAbove(number);
            if (place > 0 && kinds.at(place - 1) == number) {
                times.put(place - 1, times.at(place - 1) + many);
            } else {
                kinds.insert(place, number);
                times.insert(place, many);
            }
            total += many;
        }

        int notAbove(int number) {
            return times.sumOfFirst(kinds.notAbove(number));
        }

        int withRank(int rank) {
            int passed = 0;
            for (int i = 0; i < kinds.size(); i++) {
                passed += times.at(i);
                if (passed >= rank) {
                    return kinds.at(i);
                }
            }
            return 0;
        }
    }

    /** All numbers in two heaps: the lesser half, with the middle itself, and the greater half. */
    private static final class Halves {
        // It holds each number with its sign turned round, so that its greatest number is on top.
        private final Heap lesser = new Heap();
        private final Heap greater = new Heap();

        void clear() {
            lesser.clear();
            greater.clear();
        }

        int greatestOfLesser() {
            return -lesser.least();
        }

        void add(int number) {
            if (lesser.size() > 0 && number > greatestOfLesser()) {
                greater.push(number);
            } else {
                lesser.push(-number);
            }
            if (lesser.size() > greater.size() + 1) {
                greater.push(-lesser.pop());
            } else if (greater.size() > lesser.size()) {
                lesser.push(-greater.pop());
            }
        }
    }

    /** A heap with the least number on top. */
    private static final class Heap {
        private final Row row = new Row();

        void clear() {
            row.cutTo(0);
        }

        int size() {
            return row.size();
        }

        int least() {
            return row.at(0);
        }

        void push(int number) {
            int place = row.size();
            row.insert(place, number);
            while (place > 0) {
                int above = (place - 1) / 2;
                if (row.at(above) <= number) {
                    break;
                }
                row.put(place, row.at(above));
                place = above;
            }
            row.put(place, number);
        }

        int pop() {
            int top = least();
            int sinking = row.at(row.size() - 1);
            row.cutTo(row.size() - 1);
            int place = 0;
            int left = 1;
            while (left < row.size()) {
                int right = left + 1;
                int below = right < row.size() && row.at(right) < row.at(left) ? right : left;
                if (row.at(below) >= sinking) {
                    break;
                }
                row.put(place, row.at(below));
                place = below;
                left = 2 * below + 1;
            }
            row.put(place, sinking);
            return top;
        }
    }

    /**
     * A row of numbers in an array that is made once, since no room ever comes back.
     * No place can be wrong here: reading beside the row answers 0, writing there does nothing.
     */
    private static final class Row {
        private final int[] cells = new int[MOST_NUMBERS];
        private int size;

        int size() {
            return size;
        }

        private boolean holds(int place) {
            return place >= 0 && place < size && place < cells.length;
        }

        int at(int place) {
            return holds(place) ? cells[place] : 0;
        }

        void put(int place, int number) {
            if (holds(place)) {
                cells[place] = number;
            }
        }

        void insert(int place, int number) {
            if (place < 0 || place > size || size >= cells.length) {
                return;
            }
            System.arraycopy(cells, place, cells, place + 1, size - place);
            cells[place] = number;
            size++;
        }

        void cutTo(int length) {
            if (length >= 0 && length < size) {
                size = length;
            }
        }

        void growTo(int length) {
            if (length > size && length <= cells.length) {
                size = length;
            }
        }

        int sumOfFirst(int many) {
            int sum = 0;
            for (int i = 0; i < many && i < size; i++) {
                sum += at(i);
            }
            return sum;
        }

        /** How many are not greater; the row stands in rising order. */
        int notAbove(int number) {
            int from = 0;
            int to = size;
            while (from < to) {
                int half = (from + to) / 2;
                if (at(half) <= number) {
                    from = half + 1;
                } else {
                    to = half;
                }
            }
            return from;
        }
    }
}
