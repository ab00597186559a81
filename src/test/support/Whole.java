import java.util.ArrayList;
import java.util.List;

/**
 * All that an object answers, and how it answers after further changes. It is asked on as many new objects
 * as that takes, since none may be used for more than 512 calls.
 */
final class Whole {
    /** Some calls on an object. */
    interface Run {
        void on(QueueMiddles x);
    }

    /** One call on an object, and what it answers. */
    interface Question {
        Object of(QueueMiddles x);
    }

    private static final int QUESTIONS_OF_ONE = 450;
    private static final List<Question> QUESTIONS = questions();
    private static final List<Question> CHANGES = changes();

    private Whole() {
    }

    static List<String> after(Run run) {
        List<String> answers = new ArrayList<>();
        QueueMiddles x = null;
        for (int i = 0; i < QUESTIONS.size(); i++) {
            if (i % QUESTIONS_OF_ONE == 0) {
                x = made(run);
            }
            answers.add(answer(QUESTIONS.get(i), x));
        }
        for (Question change : CHANGES) {
            answers.add(answer(change, made(run)));
        }
        return answers;
    }

    /** Holds all answers against those that are due. */
    static void hold(String what, List<String> due, List<String> answers) {
        Checks.due(what + "how many answers", due.size(), answers::size);
        for (int i = 0; i < Math.min(due.size(), answers.size()); i++) {
            String answer = answers.get(i);
            Checks.due(what + "question " + i, due.get(i), () -> answer);
        }
    }

    private static QueueMiddles made(Run run) {
        QueueMiddles x = new QueueMiddles();
        run.on(x);
        return x;
    }

    private static String answer(Question question, QueueMiddles x) {
        return Checks.outcome(() -> question.of(x));
    }

    private static List<Question> questions() {
        List<Question> all = new ArrayList<>();
        for (int counter = 0; counter < 4; counter++) {
            int c = counter;
            all.addAll(List.of(x -> x.count(c), x -> x.bound(c), x -> x.allowance(c), x -> x.marks(c),
                    x -> x.widest(c), x -> x.middle(c), x -> x.middleByHeaps(c), x -> x.part(c)));
            for (int mark = -1; mark <= 600; mark += mark < 15 || mark > 580 ? 1 : 13) {
                int m = mark;
                all.addAll(List.of(x -> x.value(c, m), x -> x.lowestRank(c, m), x -> x.highestRank(c, m)));
            }
            for (int share = 0; share <= 1000; share += 25) {
                int s = share;
                all.addAll(List.of(x -> x.ask(c, s), x -> x.off(c, s), x -> x.reallyOff(c, s)));
            }
            for (int number = -10001; number <= 10001; number += number > -3 && number < 103 ? 4 : 499) {
                int n = number;
                all.addAll(List.of(x -> x.atLeastUpTo(c, n), x -> x.atMostUpTo(c, n), x -> x.reallyUpTo(c, n)));
            }
        }
        return all;
    }

    /** What an object keeps for later calls shows only in those; each of these needs an object of its own. */
    private static List<Question> changes() {
        List<Question> all = new ArrayList<>();
        for (int counter = 0; counter < 4; counter++) {
            int c = counter;
            int next = (counter + 1) % 4;
            all.add(x -> x.begin(c, 9) + " " + x.show(c, 3) + " " + x.middleByHeaps(c));
            all.add(x -> x.thinOut(c) + " " + x.marks(c) + " " + x.widest(c) + " " + x.off(c, 333));
            all.add(x -> x.show(c, 7) + " " + middles(x, c) + " " + x.highestRank(c, 0));
            all.add(x -> x.showRow(c, -9000, 4321, 5) + " " + middles(x, c) + " " + x.widest(c));
            all.add(x -> x.showRow(c, 5000, 1234, 10) + " " + middles(x, c) + " " + x.thinOut(c));
            all.add(x -> x.pour(c, next) + " " + x.marks(next) + " " + middles(x, next) + " " + x.bound(next));
            all.add(x -> x.pour(next, c) + " " + x.marks(c) + " " + middles(x, c) + " " + x.widest(c));
        }
        return all;
    }

    private static String middles(QueueMiddles x, int counter) {
        return x.middle(counter) + " " + x.middleByHeaps(counter);
    }
}
