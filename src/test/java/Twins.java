import java.util.ArrayList;
import java.util.List;
import java.util.function.Supplier;
import java.util.function.ToLongFunction;

/**
 * Two halls made alike: one is asked for what is refused, the other is not, and then both must answer
 * alike for good. As many later calls change what they ask about, each part is asked of a pair of its own.
 */
final class Twins {
    private interface Part {
        void ask(ExamHalls x, List<Long> answers);
    }

    private static final List<Part> PARTS = List.of(Twins::counts, Twins::tape, Twins::essays, Twins::form,
            Twins::parallels, Twins::barred, Twins::measures, Twins::numbers, Twins::seen, Twins::opened,
            Twins::readings, Twins::readers, Twins::marks, Twins::scores, Twins::passing, Twins::quotas,
            Twins::struck, Twins::cells, Twins::kin);

    private Twins() {
    }

    /** The call answers what is due, and no later answer is another one by it. */
    static void refused(String what, Supplier<ExamHalls> made, ToLongFunction<ExamHalls> call, long due) {
        for (int part = 0; part < PARTS.size(); part++) {
            ExamHalls asked = made.get();
            Check.due(what, call.applyAsLong(asked), due);
            Check.isTrue(what + " changes nothing, part " + part, answers(part, asked).equals(answers(part, made.get())));
        }
    }

    /** The other way round, so that a part that sees nothing is seen: the call changes some later answer. */
    static void taken(String what, Supplier<ExamHalls> made, ToLongFunction<ExamHalls> call, long due) {
        int changed = 0;
        for (int part = 0; part < PARTS.size(); part++) {
            ExamHalls asked = made.get();
            Check.due(what, call.applyAsLong(asked), due);
            changed += answers(part, asked).equals(answers(part, made.get())) ? 0 : 1;
        }
        Check.isTrue(what + " changes something", changed > 0);
    }

    private static List<Long> answers(int part, ExamHalls x) {
        List<Long> answers = new ArrayList<>();
        PARTS.get(part).ask(x, answers);
        return answers;
    }

    private static void counts(ExamHalls x, List<Long> answers) {
        for (int what = 0; what <= 8; what++) {
            answers.add((long) x.count(what));
        }
        answers.add((long) x.near());
        answers.add((long) x.fewest());
        answers.add((long) x.candidate(0));
        answers.add((long) x.reader(0, 0));
    }

    private static void words(ExamHalls x, int c, List<Long> answers) {
        for (int leg = 0; leg < x.legs(c, 0); leg++) {
            for (int i = 0; i < x.legs(c, 2 + leg); i++) {
                answers.add(x.word(c, leg, i));
            }
        }
    }

    private static void tape(ExamHalls x, List<Long> answers) {
        answers.add((long) x.count(5));
        answers.add((long) x.essay(0));
        words(x, 0, answers);
    }

    private static void essays(ExamHalls x, List<Long> answers) {
        for (int c = 0; c < x.count(0); c++) {
            answers.add((long) x.legs(c, 0));
            answers.add((long) x.legs(c, 1));
            answers.add(x.word(c, 0, 0));
        }
        words(x, 1, answers);
        answers.add((long) x.like(0, 1));
    }

    private static void form(ExamHalls x, List<Long> answers) {
        for (int c = 0; c < x.count(0); c++) {
            answers.add((long) x.judge(c));
        }
        answers.add((long) x.form(1));
    }

    /** A form of eight legs, with an essay as wanted, from an empty tape on. */
    private static long judged(ExamHalls x, String text) {
        Check.write(x, 0, text);
        return x.judge(0);
    }

    private static void parallels(ExamHalls x, List<Long> answers) {
        x.essay(0);
        x.form(8);
        for (int leg = 0; leg < 8; leg++) {
            x.measure(leg, 1, 12);
            StringBuilder text = new StringBuilder(Check.repeat("y", "\n", 8));
            answers.add(judged(x, text.insert(2 * leg, 'y').toString()));
        }
        answers.add((long) x.parallel(0, 1));
    }

    private static void barred(ExamHalls x, List<Long> answers) {
        x.essay(0);
        x.form(1);
        x.measure(0, 1, 12);
        for (char letter = 'a'; letter <= 'z'; letter++) {
            answers.add(judged(x, "" + letter));
            answers.add((long) x.bar(letter));
        }
    }

    private static void measures(ExamHalls x, List<Long> answers) {
        x.essay(0);
        x.form(8);
        for (int words = 1; words <= 12; words++) {
            answers.add(judged(x, Check.repeat(Check.repeat("y", " ", words), "\n", 8)));
        }
    }

    private static void numbers(ExamHalls x, List<Long> answers) {
        for (int n = 0; n < 100; n++) {
            answers.add((long) x.number(0, n));
            answers.add((long) x.number(x.count(0) - 1, n));
        }
    }

    private static void seen(ExamHalls x, List<Long> answers) {
        for (int hand = 0; hand < 8; hand++) {
            for (int a = 0; a < 4; a++) {
                for (int b = a + 1; b < 4; b++) {
                    answers.add((long) x.sees(hand, 0, a, b));
                    answers.add((long) x.sees(hand, 1, b, a));
                }
            }
        }
    }

    private static void opened(ExamHalls x, List<Long> answers) {
        for (int set = 0; set < 256; set++) {
            answers.add((long) x.opens(set));
        }
    }

    private static void readings(ExamHalls x, List<Long> answers) {
        for (int c = 0; c < x.count(0); c++) {
            for (int i = 0; i < 3; i++) {
                answers.add((long) x.reading(c, i, 0));
                answers.add((long) x.reading(c, i, 1));
            }
        }
        for (int r = 0; r < 6; r++) {
            answers.add((long) x.load(r));
            answers.add((long) x.shift(r));
        }
    }

    private static void readers(ExamHalls x, List<Long> answers) {
        answers.add((long) x.again());
        answers.add((long) x.share());
        readings(x, answers);
    }

    private static void marks(ExamHalls x, List<Long> answers) {
        for (int c = 0; c < x.count(0); c++) {
            for (int r = 0; r < 6; r++) {
                answers.add((long) x.mark(c, r, 9 * r));
            }
        }
        answers.add((long) x.apart(1));
    }

    private static void scores(ExamHalls x, List<Long> answers) {
        for (int c = 0; c < x.count(0); c++) {
            answers.add((long) x.score(c, 0));
            answers.add((long) x.score(c, 1));
        }
    }

    private static void passing(ExamHalls x, List<Long> answers) {
        for (int c = 0; c < x.count(0); c++) {
            answers.add((long) x.passes(c));
            answers.add((long) x.ifStruck(c));
        }
        for (int province = 0; province < 4; province++) {
            answers.add((long) x.passed(province));
        }
    }

    private static void quotas(ExamHalls x, List<Long> answers) {
        for (int province = 0; province < 4; province++) {
            answers.add((long) x.quota(province, 1));
        }
        passing(x, answers);
    }

    private static void struck(ExamHalls x, List<Long> answers) {
        for (int c = 0; c < x.count(0); c++) {
            answers.add((long) x.strike(c, 1));
        }
    }

    private static void cells(ExamHalls x, List<Long> answers) {
        for (int c = 0; c < x.count(0); c++) {
            answers.add((long) x.cell(c, 35 - c));
        }
    }

    /** Asked of two who come later, too: a refused pair must not wait for them. */
    private static void kin(ExamHalls x, List<Long> answers) {
        answers.add((long) x.candidate(0));
        answers.add((long) x.candidate(0));
        for (int a = 0; a < x.count(0); a++) {
            for (int b = 0; b < a; b++) {
                answers.add((long) x.kin(b, a));
            }
        }
    }
}
