/** Each promise of the document by itself: ordinary inputs, the edges that it names, and wrong inputs. */
public final class PromisesTest {
    private static final String INDEX = "throws.IndexOutOfBoundsException";
    private static final String ARGUMENT = "throws.IllegalArgumentException";
    private static final String STATE = "throws.IllegalStateException";
    private static final int[] NO_COUNTERS = {-1, 4, Integer.MIN_VALUE, Integer.MAX_VALUE};

    public static void main(String[] args) {
        newObject();
        begin();
        show();
        showSpread();
        showRow();
        showRowRefused();
        thinOut();
        pour();
        pourOfEqualValues();
        pourOfEmptyOnes();
        pourRefused();
        countBoundAllowanceMarks();
        valueAndRanks();
        widest();
        askOffReallyOff();
        askRefused();
        upTo();
        middles();
        middlesOfManyOrders();
        part();
        noSuchCounter();
        Checks.finish();
    }

    private static void newObject() {
        QueueMiddles x = new QueueMiddles();
        for (int i = 0; i < 4; i++) {
            int c = i;
            Checks.due("P1 count", 0, () -> x.count(c));
            Checks.due("P1 bound", 50, () -> x.bound(c));
            Checks.due("P1 allowance", 0, () -> x.allowance(c));
            Checks.due("P1 marks", 0, () -> x.marks(c));
            Checks.due("P1 reallyUpTo", 0, () -> x.reallyUpTo(c, Integer.MAX_VALUE));
        }
    }

    private static void begin() {
        QueueMiddles x = Scenes.thinnedTen();
        x.show(1, 7);
        Checks.due("P2 too low", ARGUMENT, () -> x.begin(0, 4));
        Checks.due("P2 too high", ARGUMENT, () -> x.begin(0, 201));
        Checks.due("P2 counter first", INDEX, () -> x.begin(4, 4));
        Checks.due("P2 refused: marks stay", "10:1-1 20:2-2 60:6-6 100:10-10", () -> Scenes.row(x, 0));
        Checks.due("P2 refused: bound stays", 200, () -> x.bound(0));
        Checks.due("P2 had ten", 10, () -> x.begin(0, 5));
        Checks.due("P2 least bound", 5, () -> x.bound(0));
        Checks.due("P2 no numbers", 0, () -> x.count(0));
        Checks.due("P2 no marks", 0, () -> x.marks(0));
        Checks.due("P2 none really", 0, () -> x.reallyUpTo(0, 9999));
        Checks.due("P2 no middle", STATE, () -> x.middle(0));
        Checks.due("P2 no middle by heaps", STATE, () -> x.middleByHeaps(0));
        Checks.due("P2 the others stay", 1, () -> x.count(1));
        Checks.due("P2 had none", 0, () -> x.begin(0, 200));
        Checks.due("P2 greatest bound", 200, () -> x.bound(0));
        x.show(0, -3);
        Checks.due("P2 anew", "-3:1-1", () -> Scenes.row(x, 0));
        Checks.due("P2 heaps anew", -3, () -> x.middleByHeaps(0));
        Checks.due("P2 tally anew", 1, () -> x.reallyUpTo(0, 9999));
    }

    private static void show() {
        QueueMiddles x = new QueueMiddles();
        Checks.due("P3 first", 1, () -> x.show(3, 9999));
        Checks.due("P3 second", 2, () -> x.show(3, -9999));
        Checks.due("P3 equal", 3, () -> x.show(3, -9999));
        Checks.due("P3 between", 4, () -> x.show(3, 0));
        Checks.due("P3 row", "-9999:1-1 -9999:2-2 0:3-3 9999:4-4", () -> Scenes.row(x, 3));
        Checks.due("P3 too great", ARGUMENT, () -> x.show(3, 10000));
        Checks.due("P3 too small", ARGUMENT, () -> x.show(3, -10000));
        Checks.due("P3 any", ARGUMENT, () -> x.show(3, Integer.MIN_VALUE));
        Checks.due("P3 counter first", INDEX, () -> x.show(-1, 10000));
        Checks.due("P3 refused", 4, () -> x.count(3));
        QueueMiddles y = Scenes.full(1);
        y.begin(1, 50);
        for (int i = 0; i < 6; i++) {
            y.showRow(1, i, 6, i < 5 ? 100 : 99);
        }
        Checks.due("P3 just full", 600, () -> y.show(1, 599));
        Checks.due("P3 just full, after begin", 600, () -> y.reallyUpTo(1, 9999));
        Checks.due("P3 full", STATE, () -> y.show(1, 0));
        Checks.due("P3 full, argument first", ARGUMENT, () -> y.show(1, 10000));
        Checks.due("P3 full, counter first", INDEX, () -> y.show(4, 0));
        Checks.due("P3 the full one stays", 600, () -> y.marks(1));
        Checks.due("P3 another one has room", 1, () -> y.show(0, 0));
    }

    private static void showSpread() {
        QueueMiddles x = Scenes.thinnedTen();
        x.show(0, 55);
        Checks.due("P3 spread", "10:1-1 20:2-2 55:3-6 60:7-7 100:11-11", () -> Scenes.row(x, 0));
        x.show(0, 55);
        Checks.due("P3 behind the equal one", "10:1-1 20:2-2 55:3-6 55:4-7 60:8-8 100:12-12", () -> Scenes.row(x, 0));
        x.show(0, 54);
        Checks.due("P3 spread of a spread", "10:1-1 20:2-2 54:3-6 55:4-7 55:5-8 60:9-9 100:13-13",
                () -> Scenes.row(x, 0));
        x.show(0, 100);
        Checks.due("P3 behind all", 0, () -> x.highestRank(0, 7) - x.lowestRank(0, 7));
    }

    private static void showRow() {
        QueueMiddles x = new QueueMiddles();
        Checks.due("P4 ten", 10, () -> x.showRow(0, 5, 3, 10));
        Checks.due("P4 last", 32, () -> x.value(0, 9));
        Checks.due("P4 one more", 11, () -> x.showRow(0, 9999, 9999, 1));
        Checks.due("P4 last of one", 9999, () -> x.value(0, 10));
        Checks.due("P4 round", 4, () -> x.showRow(1, 9990, 5, 4));
        Checks.due("P4 round, row", "-10000:1-1 -9995:2-2 9990:3-3 9995:4-4", () -> Scenes.row(x, 1));
        Checks.due("P4 not yet round", 2, () -> x.showRow(2, 9990, 9, 2));
        Checks.due("P4 not yet round, row", "9990:1-1 9999:2-2", () -> Scenes.row(x, 2));
        Checks.due("P4 step 0", 100, () -> x.showRow(3, -9999, 0, 100));
        Checks.due("P4 step 0, last", -9999, () -> x.value(3, 99));
        Checks.due("P4 longest", 200, () -> x.showRow(3, 9999, 9999, 100));
        Checks.due("P4 longest, least", -10000, () -> {
            x.showRow(1, 1, 9999, 2);
            return x.value(1, 0);
        });
        Checks.due("P4 round by the greatest step", -2, () -> {
            x.begin(1, 5);
            x.showRow(1, 9999, 9999, 2);
            return x.value(1, 0);
        });
    }

    private static void showRowRefused() {
        QueueMiddles x = Scenes.full(0);
        Checks.due("P4 full", STATE, () -> x.showRow(0, 0, 0, 1));
        Checks.due("P4 argument before state", ARGUMENT, () -> x.showRow(0, 0, 0, 101));
        Checks.due("P4 counter before all", INDEX, () -> x.showRow(4, 10000, -1, 0));
        Checks.due("P4 first too great", ARGUMENT, () -> x.showRow(1, 10000, 0, 1));
        Checks.due("P4 first too small", ARGUMENT, () -> x.showRow(1, -10000, 0, 1));
        Checks.due("P4 step too small", ARGUMENT, () -> x.showRow(1, 0, -1, 1));
        Checks.due("P4 step too great", ARGUMENT, () -> x.showRow(1, 0, 10000, 1));
        Checks.due("P4 none", ARGUMENT, () -> x.showRow(1, 0, 0, 0));
        Checks.due("P4 too many", ARGUMENT, () -> x.showRow(1, 0, 0, 101));
        Checks.due("P4 any many", ARGUMENT, () -> x.showRow(1, 0, 0, Integer.MAX_VALUE));
        Checks.due("P4 refused", 0, () -> x.count(1));
        for (int i = 0; i < 5; i++) {
            x.showRow(1, i, 1, 100);
        }
        x.showRow(1, 0, 1, 50);
        Checks.due("P4 one too many", STATE, () -> x.showRow(1, 0, 1, 51));
        Checks.due("P4 nothing shown", 550, () -> x.count(1));
        Checks.due("P4 just full", 600, () -> x.showRow(1, 0, 1, 50));
    }

    private static void thinOut() {
        QueueMiddles x = new QueueMiddles();
        Checks.due("P5 none", 0, () -> x.thinOut(0));
        x.begin(0, 100);
        x.showRow(0, 0, 0, 10);
        Checks.due("P5 four go", 4, () -> x.thinOut(0));
        Checks.due("P5 row", "0:1-1 0:2-2 0:4-4 0:6-6 0:8-8 0:10-10", () -> Scenes.row(x, 0));
        Checks.due("P5 no more go", 0, () -> x.thinOut(0));
        x.begin(1, 200);
        x.showRow(1, 1, 1, 5);
        Checks.due("P5 two go", 2, () -> x.thinOut(1));
        Checks.due("P5 first and last stay", "1:1-1 3:3-3 5:5-5", () -> Scenes.row(x, 1));
        Checks.due("P5 numbers stay", 5, () -> x.count(1));
        Checks.due("P5 one mark stays", 0, () -> {
            x.show(2, 1);
            return x.thinOut(2);
        });
        QueueMiddles y = Scenes.thinnedTen();
        y.show(0, 55);
        y.showRow(0, 55, 0, 2);
        Checks.due("P5 by the spread behind", 2, () -> y.thinOut(0));
        Checks.due("P5 spreads stay", "10:1-1 20:2-2 55:4-7 60:9-9 100:13-13", () -> Scenes.row(y, 0));
    }

    private static void pour() {
        QueueMiddles x = Scenes.thinnedTen();
        x.begin(1, 100);
        x.showRow(1, 15, 20, 5);
        Checks.due("P6 answer", 15, () -> x.pour(1, 0));
        Checks.due("P6 row", "10:1-1 15:2-2 20:3-3 35:4-7 55:5-8 60:9-9 75:10-13 95:11-14 100:15-15",
                () -> Scenes.row(x, 0));
        Checks.due("P6 bound", 200, () -> x.bound(0));
        Checks.due("P6 from stays", "15:1-1 35:2-2 55:3-3 75:4-4 95:5-5", () -> Scenes.row(x, 1));
        Checks.due("P6 from: bound stays", 100, () -> x.bound(1));
        Checks.due("P6 from: count stays", 5, () -> x.count(1));
        Checks.due("P6 numbers of both", 9, () -> x.reallyUpTo(0, 60));
        Checks.due("P6 middle of both", 55, () -> x.middle(0));
        Checks.due("P6 middle by heaps of both", 55, () -> x.middleByHeaps(0));
        Checks.due("P6 the other way", 20, () -> x.pour(0, 1));
        Checks.due("P6 greater bound", 200, () -> x.bound(1));
        Checks.due("P6 spread of both", "100:20-20", () -> x.value(1, 13) + ":" + x.lowestRank(1, 13) + "-"
                + x.highestRank(1, 13));
    }

    private static void pourOfEqualValues() {
        QueueMiddles x = new QueueMiddles();
        x.begin(0, 200);
        x.showRow(0, 1, 1, 5);
        x.thinOut(0);
        x.show(1, 3);
        x.pour(0, 2);
        x.pour(1, 2);
        Checks.due("P6 own ahead", "1:1-1 3:3-3 3:4-5 5:6-6", () -> Scenes.row(x, 2));
        x.pour(0, 1);
        Checks.due("P6 own ahead, the other way", "1:1-1 3:2-3 3:4-4 5:6-6", () -> Scenes.row(x, 1));
    }

    private static void pourOfEmptyOnes() {
        QueueMiddles x = new QueueMiddles();
        Checks.due("P6 both empty", 0, () -> x.pour(0, 1));
        x.begin(0, 200);
        x.showRow(1, 1, 1, 4);
        Checks.due("P6 from empty", 4, () -> x.pour(0, 1));
        Checks.due("P6 from empty, bound", 200, () -> x.bound(1));
        Checks.due("P6 from empty, row", "1:1-1 2:2-2 3:3-3 4:4-4", () -> Scenes.row(x, 1));
        Checks.due("P6 into empty", 4, () -> x.pour(1, 3));
        Checks.due("P6 into empty, row", "1:1-1 2:2-2 3:3-3 4:4-4", () -> Scenes.row(x, 3));
    }

    private static void pourRefused() {
        QueueMiddles x = Scenes.full(3);
        x.begin(0, 200);
        x.show(0, 1);
        Checks.due("P6 no room", STATE, () -> x.pour(0, 3));
        Checks.due("P6 no room, the other way", STATE, () -> x.pour(3, 0));
        Checks.due("P6 bound stays", 50, () -> x.bound(3));
        Checks.due("P6 count stays", 600, () -> x.count(3));
        Checks.due("P6 same one before no room", ARGUMENT, () -> x.pour(3, 3));
        Checks.due("P6 no counter before same one", INDEX, () -> x.pour(4, 4));
        Checks.due("P6 no counter from", INDEX, () -> x.pour(-1, 0));
        Checks.due("P6 no counter into", INDEX, () -> x.pour(0, -1));
        Checks.due("P6 just room", 600, () -> x.pour(3, 1));
        Checks.due("P6 just room, marks", 600, () -> x.marks(1));
    }

    private static void countBoundAllowanceMarks() {
        QueueMiddles x = Scenes.thinnedTen();
        Checks.due("P7 count", 10, () -> x.count(0));
        Checks.due("P8 bound", 200, () -> x.bound(0));
        Checks.due("P9 allowance", 4, () -> x.allowance(0));
        Checks.due("P10 marks", 4, () -> x.marks(0));
        x.begin(1, 5);
        x.showRow(1, 0, 1, 99);
        Checks.due("P9 rounded down", 0, () -> x.allowance(1));
        x.show(1, 0);
        Checks.due("P9 just one", 1, () -> x.allowance(1));
        Checks.due("P7 hundred", 100, () -> x.count(1));
        Checks.due("P9 full", 60, () -> Scenes.full(2).allowance(2));
    }

    private static void valueAndRanks() {
        QueueMiddles x = Scenes.thinnedTen();
        x.show(0, 55);
        Checks.due("P11 first", 10, () -> x.value(0, 0));
        Checks.due("P11 last", 100, () -> x.value(0, 4));
        Checks.due("P12", 3, () -> x.lowestRank(0, 2));
        Checks.due("P13", 6, () -> x.highestRank(0, 2));
        for (int none : new int[] {-1, 5, 10, 600, Integer.MIN_VALUE, Integer.MAX_VALUE}) {
            Checks.due("P11 no mark " + none, INDEX, () -> x.value(0, none));
            Checks.due("P12 no mark " + none, INDEX, () -> x.lowestRank(0, none));
            Checks.due("P13 no mark " + none, INDEX, () -> x.highestRank(0, none));
        }
        Checks.due("P11 no mark at all", INDEX, () -> x.value(1, 0));
        Checks.due("P12 no mark at all", INDEX, () -> x.lowestRank(1, 0));
        Checks.due("P13 no mark at all", INDEX, () -> x.highestRank(1, 0));
    }

    private static void widest() {
        QueueMiddles x = new QueueMiddles();
        Checks.due("P14 none", 0, () -> x.widest(0));
        x.show(0, 1);
        Checks.due("P14 one", 1, () -> x.widest(0));
        QueueMiddles y = Scenes.thinnedTen();
        Checks.due("P14 gaps", 4, () -> y.widest(0));
        y.begin(1, 100);
        y.showRow(1, 15, 20, 5);
        y.pour(1, 0);
        Checks.due("P14 the last gap", 4, () -> y.widest(0));
        y.begin(2, 200);
        y.showRow(2, 5, 95, 5);
        y.thinOut(2);
        y.pour(2, 0);
        Checks.due("P14 gap and spread", "5:1-1 10:2-3 15:3-4 20:4-5 35:5-9 55:6-10 60:10-11 75:11-15 95:12-16 "
                + "100:16-17 195:18-18 385:20-20", () -> Scenes.row(y, 0));
        Checks.due("P14 widest", 5, () -> y.widest(0));
    }

    private static void askOffReallyOff() {
        QueueMiddles x = Scenes.thinnedTen();
        int[][] due = {
            {0, 10, 0, 0}, {1, 10, 0, 0}, {100, 10, 0, 0}, {101, 20, 0, 0}, {200, 20, 0, 0}, {201, 20, 1, 1},
            {400, 20, 2, 2}, {401, 60, 1, 1}, {500, 60, 1, 1}, {600, 60, 0, 0}, {700, 60, 1, 1}, {800, 60, 2, 2},
            {801, 100, 1, 1}, {999, 100, 0, 0}, {1000, 100, 0, 0},
        };
        for (int[] d : due) {
            Checks.due("P15 at " + d[0], d[1], () -> x.ask(0, d[0]));
            Checks.due("P16 at " + d[0], d[2], () -> x.off(0, d[0]));
            Checks.due("P17 at " + d[0], d[3], () -> x.reallyOff(0, d[0]));
        }
        x.show(0, 55);
        Checks.due("P15 with a spread", 55, () -> x.ask(0, 364));
        Checks.due("P16 with a spread", 2, () -> x.off(0, 364));
        Checks.due("P17 with a spread", 1, () -> x.reallyOff(0, 364));
        x.begin(1, 100);
        x.showRow(1, 0, 0, 10);
        x.thinOut(1);
        Checks.due("P16 among equals", 1, () -> x.off(1, 500));
        Checks.due("P17 among equals", 0, () -> x.reallyOff(1, 500));
        x.begin(3, 200);
        x.showRow(3, 1, 1, 10);
        x.thinOut(3);
        Checks.due("P17 next to another number", 1, () -> x.reallyOff(3, 500));
        x.showRow(2, 9999, 1, 2);
        Checks.due("P15 least number of all", -10000, () -> x.ask(2, 0));
        Checks.due("P17 least number of all", 0, () -> x.reallyOff(2, 0));
    }

    private static void askRefused() {
        QueueMiddles x = Scenes.thinnedTen();
        for (int share : new int[] {-1, 1001, Integer.MIN_VALUE, Integer.MAX_VALUE}) {
            for (int counter = 0; counter < 2; counter++) {
                int c = counter;
                Checks.due("P15 no share", ARGUMENT, () -> x.ask(c, share));
                Checks.due("P16 no share", ARGUMENT, () -> x.off(c, share));
                Checks.due("P17 no share", ARGUMENT, () -> x.reallyOff(c, share));
            }
            Checks.due("P15 counter first", INDEX, () -> x.ask(4, share));
            Checks.due("P16 counter first", INDEX, () -> x.off(4, share));
            Checks.due("P17 counter first", INDEX, () -> x.reallyOff(4, share));
        }
        Checks.due("P15 no numbers", STATE, () -> x.ask(1, 500));
        Checks.due("P16 no numbers", STATE, () -> x.off(1, 500));
        Checks.due("P17 no numbers", STATE, () -> x.reallyOff(1, 500));
    }

    private static void upTo() {
        QueueMiddles x = Scenes.thinnedTen();
        x.show(0, 55);
        int[][] due = {
            {Integer.MIN_VALUE, 0, 0, 0}, {9, 0, 0, 0}, {10, 1, 1, 1}, {20, 2, 5, 2}, {54, 2, 5, 5}, {55, 3, 6, 6},
            {59, 3, 6, 6}, {60, 7, 10, 7}, {99, 7, 10, 10}, {100, 11, 11, 11}, {Integer.MAX_VALUE, 11, 11, 11},
        };
        for (int[] d : due) {
            Checks.due("P18 " + d[0], d[1], () -> x.atLeastUpTo(0, d[0]));
            Checks.due("P19 " + d[0], d[2], () -> x.atMostUpTo(0, d[0]));
            Checks.due("P20 " + d[0], d[3], () -> x.reallyUpTo(0, d[0]));
        }
        Checks.due("P18 none", 0, () -> x.atLeastUpTo(1, 0));
        Checks.due("P19 none", 0, () -> x.atMostUpTo(1, 0));
        Checks.due("P20 none", 0, () -> x.reallyUpTo(1, 0));
        x.showRow(1, 0, 0, 10);
        Checks.due("P20 equals", 10, () -> x.reallyUpTo(1, 0));
        Checks.due("P20 less than equals", 0, () -> x.reallyUpTo(1, -1));
    }

    private static void bothMiddles(String what, QueueMiddles x, int counter, Object want) {
        Checks.due("P21 " + what, want, () -> x.middle(counter));
        Checks.due("P22 " + what, want, () -> x.middleByHeaps(counter));
    }

    private static void middles() {
        QueueMiddles x = new QueueMiddles();
        bothMiddles("none", x, 0, STATE);
        int[] shown = {5, -7, 9999, 0, -9999, 5, 5};
        int[] due = {5, -7, 5, 0, 0, 0, 5};
        for (int i = 0; i < shown.length; i++) {
            x.show(0, shown[i]);
            bothMiddles("after " + (i + 1), x, 0, due[i]);
        }
        x.thinOut(0);
        bothMiddles("thinned out", x, 0, 5);
        x.showRow(1, 9999, 1, 1);
        x.showRow(1, 9999, 1, 2);
        x.showRow(1, 9999, 1, 2);
        bothMiddles("5 with two of -10000", x, 1, 9999);
        x.pour(1, 2);
        x.showRow(2, 9999, 1, 2);
        x.showRow(2, 9999, 1, 2);
        x.show(2, -9999);
        bothMiddles("10 with four of -10000", x, 2, -9999);
        bothMiddles("full", Scenes.full(3), 3, 299);
    }

    private static void middlesOfManyOrders() {
        for (int step = 1; step < 97; step++) {
            QueueMiddles x = new QueueMiddles();
            for (int i = 0; i < 97; i++) {
                x.show(0, i * step % 97);
            }
            bothMiddles("0 to 96 by " + step, x, 0, 48);
            x.show(0, 97);
            bothMiddles("0 to 97 by " + step, x, 0, 48);
            x.show(0, 98);
            bothMiddles("0 to 98 by " + step, x, 0, 49);
        }
    }

    private static void part() {
        QueueMiddles x = new QueueMiddles();
        Checks.due("P23 none", 0.0, () -> x.part(0));
        x.show(1, 0);
        Checks.due("P23 one", 1.0, () -> x.part(1));
        x.begin(0, 200);
        x.showRow(0, 1, 1, 5);
        Checks.due("P23 all", 1.0, () -> x.part(0));
        x.thinOut(0);
        Checks.due("P23 three of five", 0.6, () -> x.part(0));
        x.showRow(0, 1, 1, 2);
        Checks.due("P23 five of seven", 5.0 / 7.0, () -> x.part(0));
    }

    private static void noSuchCounter() {
        QueueMiddles x = new QueueMiddles();
        for (int none : NO_COUNTERS) {
            Checks.due("P2", INDEX, () -> x.begin(none, 50));
            Checks.due("P3", INDEX, () -> x.show(none, 0));
            Checks.due("P4", INDEX, () -> x.showRow(none, 0, 0, 1));
            Checks.due("P5", INDEX, () -> x.thinOut(none));
            Checks.due("P6 from", INDEX, () -> x.pour(none, 0));
            Checks.due("P6 into", INDEX, () -> x.pour(0, none));
            Checks.due("P7", INDEX, () -> x.count(none));
            Checks.due("P8", INDEX, () -> x.bound(none));
            Checks.due("P9", INDEX, () -> x.allowance(none));
            Checks.due("P10", INDEX, () -> x.marks(none));
            Checks.due("P11", INDEX, () -> x.value(none, 0));
            Checks.due("P12", INDEX, () -> x.lowestRank(none, 0));
            Checks.due("P13", INDEX, () -> x.highestRank(none, 0));
            Checks.due("P14", INDEX, () -> x.widest(none));
            Checks.due("P15", INDEX, () -> x.ask(none, 0));
            Checks.due("P16", INDEX, () -> x.off(none, 0));
            Checks.due("P17", INDEX, () -> x.reallyOff(none, 0));
            Checks.due("P18", INDEX, () -> x.atLeastUpTo(none, 0));
            Checks.due("P19", INDEX, () -> x.atMostUpTo(none, 0));
            Checks.due("P20", INDEX, () -> x.reallyUpTo(none, 0));
            Checks.due("P21", INDEX, () -> x.middle(none));
            Checks.due("P22", INDEX, () -> x.middleByHeaps(none));
            Checks.due("P23", INDEX, () -> x.part(none));
        }
    }
}
