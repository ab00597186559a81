import java.util.ArrayList;
import java.util.Collections;
import java.util.List;

/** Long runs of calls, each answer held against a slow model that follows the document's words. */
public final class ModelTest {
    private static final int RUNS = 1500;
    private static final int CALLS = 512;
    private static final int[] BOUNDS = {5, 10, 50, 100, 150, 200};

    private final QueueMiddles real = new QueueMiddles();
    private final Model model = new Model();
    private final int range;
    private long seed;

    private ModelTest(long seed, int range) {
        this.seed = seed;
        this.range = range;
    }

    public static void main(String[] args) {
        int[] ranges = {3, 40, 9999};
        for (int run = 0; run < RUNS; run++) {
            ModelTest test = new ModelTest(run * 7919L + 1, ranges[run % ranges.length]);
            for (int call = 0; call < CALLS; call++) {
                test.oneCall("run " + run + ", call " + call + ": ");
            }
        }
        Checks.finish();
    }

    private int pick(int least, int greatest) {
        seed = seed * 6364136223846793005L + 1442695040888963407L;
        return least + (int) ((seed >>> 33) % (greatest - least + 1));
    }

    private boolean seldom() {
        return pick(1, 40) == 1;
    }

    private int counter() {
        return seldom() ? pick(-1, 4) : pick(0, 3);
    }

    private int number() {
        return seldom() ? pick(0, 1) * 20001 - 10000 : pick(-range, range);
    }

    private int share() {
        return seldom() ? pick(0, 1) * 1002 - 1 : pick(0, 1000);
    }

    private int anyNumber() {
        return seldom() ? (pick(0, 1) == 0 ? Integer.MIN_VALUE : Integer.MAX_VALUE) : pick(-range - 1, range + 1);
    }

    private int mark(int counter) {
        int many = model.has(counter) ? model.counters.get(counter).marks.size() : 0;
        return pick(seldom() || many == 0 ? -1 : 0, seldom() ? many + 1 : Math.max(0, many - 1));
    }

    private void hold(String call, Checks.Call want, Checks.Call got) {
        Checks.due(call, Checks.outcome(want), got);
    }

    private void oneCall(String where) {
        int kind = pick(0, 99);
        if (kind < 50) {
            change(where, kind);
        } else if (kind < 75) {
            question(where, kind);
        } else {
            markQuestion(where, kind);
        }
    }

    private void change(String where, int kind) {
        int c = counter();
        if (kind < 2) {
            int bound = seldom() ? pick(0, 1) * 197 + 4 : BOUNDS[pick(0, BOUNDS.length - 1)];
            hold(where + "begin(" + c + ", " + bound + ")", () -> model.begin(c, bound), () -> real.begin(c, bound));
        } else if (kind < 20) {
            int n = number();
            hold(where + "show(" + c + ", " + n + ")", () -> model.show(c, n), () -> real.show(c, n));
        } else if (kind < 30) {
            int first = number();
            int step = seldom() ? pick(0, 1) * 10001 - 1 : pick(0, range);
            int many = seldom() ? pick(0, 1) * 101 : pick(1, pick(1, 100));
            hold(where + "showRow(" + c + ", " + first + ", " + step + ", " + many + ")",
                    () -> model.showRow(c, first, step, many), () -> real.showRow(c, first, step, many));
        } else if (kind < 41) {
            hold(where + "thinOut(" + c + ")", () -> model.thinOut(c), () -> real.thinOut(c));
        } else {
            int into = counter();
            hold(where + "pour(" + c + ", " + into + ")", () -> model.pour(c, into), () -> real.pour(c, into));
        }
    }

    private void question(String where, int kind) {
        int c = counter();
        int s = share();
        String of = "(" + c + ")";
        String at = "(" + c + ", " + s + ")";
        switch (kind) {
            case 50 -> hold(where + "count" + of, () -> model.at(c).numbers.size(), () -> real.count(c));
            case 51 -> hold(where + "bound" + of, () -> model.at(c).bound, () -> real.bound(c));
            case 52 -> hold(where + "allowance" + of, () -> model.allowance(model.at(c)), () -> real.allowance(c));
            case 53 -> hold(where + "marks" + of, () -> model.at(c).marks.size(), () -> real.marks(c));
            case 54, 55 -> hold(where + "widest" + of, () -> model.widest(c), () -> real.widest(c));
            case 56, 57 -> hold(where + "middle" + of, () -> model.middle(c), () -> real.middle(c));
            case 58, 59 -> hold(where + "middleByHeaps" + of, () -> model.middle(c), () -> real.middleByHeaps(c));
            case 60 -> hold(where + "part" + of, () -> model.part(c), () -> real.part(c));
            case 61, 62, 63, 64, 65 -> hold(where + "ask" + at, () -> model.ask(c, s), () -> real.ask(c, s));
            case 66, 67, 68, 69 -> hold(where + "off" + at, () -> model.off(c, s), () -> real.off(c, s));
            default -> hold(where + "reallyOff" + at, () -> model.reallyOff(c, s), () -> real.reallyOff(c, s));
        }
    }

    private void markQuestion(String where, int kind) {
        int c = counter();
        int m = mark(c);
        int n = anyNumber();
        String of = "(" + c + ", " + m + ")";
        String at = "(" + c + ", " + n + ")";
        switch (kind % 6) {
            case 0 -> hold(where + "value" + of, () -> model.mark(c, m).value, () -> real.value(c, m));
            case 1 -> hold(where + "lowestRank" + of, () -> model.lowest(c, m), () -> real.lowestRank(c, m));
            case 2 -> hold(where + "highestRank" + of, () -> model.highest(c, m), () -> real.highestRank(c, m));
            case 3 -> hold(where + "atLeastUpTo" + at, () -> model.atLeast(c, n), () -> real.atLeastUpTo(c, n));
            case 4 -> hold(where + "atMostUpTo" + at, () -> model.atMost(c, n), () -> real.atMostUpTo(c, n));
            default -> hold(where + "reallyUpTo" + at, () -> model.really(c, n), () -> real.reallyUpTo(c, n));
        }
    }

    private static final class Mark {
        final int value;
        int gap;
        int spread;

        Mark(int value, int gap, int spread) {
            this.value = value;
            this.gap = gap;
            this.spread = spread;
        }
    }

    private static final class Counter {
        List<Mark> marks = new ArrayList<>();
        List<Integer> numbers = new ArrayList<>();
        int bound = 50;

        int lowest(int mark) {
            int sum = 0;
            for (int i = 0; i <= mark; i++) {
                sum += marks.get(i).gap;
            }
            return sum;
        }

        int highest(int mark) {
            return lowest(mark) + marks.get(mark).spread;
        }
    }

    /** All as the document words it, without a thought for speed. */
    private static final class Model {
        final List<Counter> counters = List.of(new Counter(), new Counter(), new Counter(), new Counter());

        boolean has(int c) {
            return c >= 0 && c <= 3;
        }

        Counter at(int c) {
            if (!has(c)) {
                throw new IndexOutOfBoundsException();
            }
            return counters.get(c);
        }

        void demand(boolean argumentsRight, boolean stateRight) {
            if (!argumentsRight) {
                throw new IllegalArgumentException();
            }
            if (!stateRight) {
                throw new IllegalStateException();
            }
        }

        int begin(int c, int bound) {
            Counter x = at(c);
            demand(bound >= 5 && bound <= 200, true);
            int had = x.numbers.size();
            x.marks = new ArrayList<>();
            x.numbers = new ArrayList<>();
            x.bound = bound;
            return had;
        }

        int show(int c, int n) {
            Counter x = at(c);
            demand(n >= -9999 && n <= 9999, x.numbers.size() < 600);
            come(x, n);
            return x.marks.size();
        }

        int showRow(int c, int first, int step, int many) {
            Counter x = at(c);
            demand(first >= -9999 && first <= 9999 && step >= 0 && step <= 9999 && many >= 1 && many <= 100,
                    x.numbers.size() + many <= 600);
            int n = first;
            for (int i = 0; i < many; i++) {
                come(x, n);
                n = n + step > 9999 ? n + step - 20000 : n + step;
            }
            return x.marks.size();
        }

        void come(Counter x, int n) {
            x.numbers.add(n);
            for (int i = 0; i < x.marks.size(); i++) {
                Mark m = x.marks.get(i);
                if (m.value > n) {
                    x.marks.add(i, new Mark(n, 1, m.gap + m.spread - 1));
                    return;
                }
            }
            x.marks.add(new Mark(n, 1, 0));
        }

        int allowance(Counter x) {
            return 2 * x.bound * x.numbers.size() / 1000;
        }

        int thinOut(int c) {
            Counter x = at(c);
            int gone = 0;
            for (int i = x.marks.size() - 2; i >= 1; i--) {
                Mark m = x.marks.get(i);
                Mark behind = x.marks.get(i + 1);
                if (m.gap + behind.gap + behind.spread <= allowance(x)) {
                    behind.gap += m.gap;
                    x.marks.remove(i);
                    gone++;
                }
            }
            return gone;
        }

        int pour(int from, int into) {
            at(from);
            at(into);
            demand(from != into, at(from).numbers.size() + at(into).numbers.size() <= 600);
            Counter target = at(into);
            Counter source = at(from);
            List<Mark> all = new ArrayList<>();
            List<Boolean> own = new ArrayList<>();
            line(source, target, all, own);
            List<int[]> ranks = new ArrayList<>();
            for (int i = 0; i < all.size(); i++) {
                Counter home = own.get(i) ? target : source;
                Counter other = own.get(i) ? source : target;
                int before = 0;
                for (int k = 0; k < i; k++) {
                    before += own.get(k) != own.get(i) ? 1 : 0;
                }
                int place = i - before;
                int lowest = home.lowest(place) + (before > 0 ? other.lowest(before - 1) : 0);
                int highest = home.highest(place);
                if (before < other.marks.size()) {
                    highest += other.highest(before) - 1;
                } else if (before > 0) {
                    highest += other.highest(before - 1);
                }
                ranks.add(new int[] {lowest, highest});
            }
            List<Mark> poured = new ArrayList<>();
            for (int i = 0; i < all.size(); i++) {
                int ahead = i == 0 ? 0 : ranks.get(i - 1)[0];
                int[] r = ranks.get(i);
                poured.add(new Mark(all.get(i).value, r[0] - ahead, r[1] - r[0]));
            }
            target.marks = poured;
            target.numbers.addAll(source.numbers);
            target.bound = Math.max(target.bound, source.bound);
            return target.numbers.size();
        }

        void line(Counter source, Counter target, List<Mark> all, List<Boolean> own) {
            int s = 0;
            for (Mark m : target.marks) {
                while (s < source.marks.size() && source.marks.get(s).value < m.value) {
                    all.add(source.marks.get(s++));
                    own.add(Boolean.FALSE);
                }
                all.add(m);
                own.add(Boolean.TRUE);
            }
            while (s < source.marks.size()) {
                all.add(source.marks.get(s++));
                own.add(Boolean.FALSE);
            }
        }

        Mark mark(int c, int m) {
            if (m < 0 || m >= at(c).marks.size()) {
                throw new IndexOutOfBoundsException();
            }
            return at(c).marks.get(m);
        }

        int lowest(int c, int m) {
            mark(c, m);
            return at(c).lowest(m);
        }

        int highest(int c, int m) {
            mark(c, m);
            return at(c).highest(m);
        }

        int widest(int c) {
            int widest = 0;
            for (Mark m : at(c).marks) {
                widest = Math.max(widest, m.gap + m.spread);
            }
            return widest;
        }

        int rank(int c, int share) {
            Counter x = at(c);
            demand(share >= 0 && share <= 1000, !x.numbers.isEmpty());
            int rank = 1;
            while (rank * 1000 < share * x.numbers.size()) {
                rank++;
            }
            return rank;
        }

        int offOf(int c, int m, int rank) {
            return Math.max(rank - at(c).lowest(m), at(c).highest(m) - rank);
        }

        int answer(int c, int rank) {
            int best = 0;
            for (int m = 1; m < at(c).marks.size(); m++) {
                best = offOf(c, m, rank) < offOf(c, best, rank) ? m : best;
            }
            return best;
        }

        int ask(int c, int share) {
            return mark(c, answer(c, rank(c, share))).value;
        }

        int off(int c, int share) {
            int rank = rank(c, share);
            return offOf(c, answer(c, rank), rank);
        }

        List<Integer> sorted(int c) {
            List<Integer> sorted = new ArrayList<>(at(c).numbers);
            Collections.sort(sorted);
            return sorted;
        }

        int reallyOff(int c, int share) {
            int value = ask(c, share);
            int rank = rank(c, share);
            List<Integer> sorted = sorted(c);
            int nearest = Integer.MAX_VALUE;
            for (int i = 0; i < sorted.size(); i++) {
                if (sorted.get(i) == value) {
                    nearest = Math.min(nearest, Math.abs(i + 1 - rank));
                }
            }
            return nearest;
        }

        int atLeast(int c, int n) {
            int most = 0;
            for (int m = 0; m < at(c).marks.size(); m++) {
                most = mark(c, m).value <= n ? at(c).lowest(m) : most;
            }
            return most;
        }

        int atMost(int c, int n) {
            for (int m = 0; m < at(c).marks.size(); m++) {
                if (mark(c, m).value > n) {
                    return at(c).highest(m) - 1;
                }
            }
            return at(c).numbers.size();
        }

        int really(int c, int n) {
            int many = 0;
            for (int number : at(c).numbers) {
                many += number <= n ? 1 : 0;
            }
            return many;
        }

        int middle(int c) {
            demand(true, !at(c).numbers.isEmpty());
            return sorted(c).get((at(c).numbers.size() + 1) / 2 - 1);
        }

        double part(int c) {
            Counter x = at(c);
            return x.numbers.isEmpty() ? 0.0 : (double) x.marks.size() / x.numbers.size();
        }
    }
}
