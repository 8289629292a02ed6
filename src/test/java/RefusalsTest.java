import java.util.function.Supplier;
import java.util.function.ToLongFunction;

/** Part 5: each refusal, at the first number that is refused on each side; it changes nothing. */
public final class RefusalsTest {
    private static final int NONE = -1, BAD = -2, STATE = -3, FULL = -4, NOBODY = -5, NO_SHIFT = -1000;
    private static final int LEAST = Integer.MIN_VALUE, MOST = Integer.MAX_VALUE;

    /** The numbers next to 0 .. most on both sides, and the farthest. */
    private static int[] outOf(int most) {
        return new int[] {-1, most + 1, LEAST, MOST};
    }

    public static void main(String[] args) {
        takenAreSeen();
        candidates();
        feeds();
        essays();
        forms();
        measures();
        parallels();
        bars();
        numbers();
        sees();
        readers();
        aparts();
        marks();
        quotasAndRules();
        strikes();
        cells();
        kin();
        questions();
        questionsOfNobody();
        theFirstTold();
        theFirstToldWhereAllIsFull();
        Check.end();
    }

    private static void refused(String what, ToLongFunction<ExamHalls> call, long due) {
        Twins.refused(what, RefusalsTest::some, call, due);
    }

    private static void refusedFull(String what, ToLongFunction<ExamHalls> call, long due) {
        Twins.refused(what + " (full)", RefusalsTest::full, call, due);
    }

    /** Some of everything: two of four candidates are alike at a quota's end by score, not by scaled. */
    private static ExamHalls some() {
        ExamHalls x = Check.hallsOf(0, 0, 1, 0);
        x.reader(2, 0);
        x.reader(2, 1);
        x.reader(3, 2);
        for (int c = 0; c < 3; c++) {
            x.number(c, 32 - c);
            Check.write(x, c, c == 2 ? "c a b" : "a b");
        }
        x.share();
        for (int c = 0; c < 3; c++) {
            x.mark(c, x.reading(c, 0, 0), c == 2 ? 80 : 50);
            x.mark(c, x.reading(c, 1, 0), c == 2 ? 50 : 55);
        }
        x.measure(7, 2, 3);
        x.parallel(6, 7);
        x.bar('q');
        x.quota(0, 1);
        x.quota(1, 2);
        x.rule(2, 0);
        x.strike(3, 1);
        x.sees(0, 0, 0, 1);
        x.sees(1, 0, 1, 3);
        x.sees(2, 1, 0, 3);
        x.cell(0, 0);
        x.cell(1, 1);
        x.kin(0, 1);
        Check.feed(x, "tape ends\nhere");
        return x;
    }

    /** As many as may be of all that there is a most of; eight of them have no essays. */
    private static ExamHalls full() {
        ExamHalls x = new ExamHalls();
        for (int r = 0; r < 6; r++) {
            x.reader(1 + r % 3, r % 4);
        }
        for (int c = 0; c < 24; c++) {
            x.candidate(c % 2);
            x.cell(c, c);
            if (c < 16) {
                x.number(c, 4 * c);
                x.feed('a' + c % 3, 1);
                x.essay(c);
            }
        }
        x.share();
        for (int i = 0; i < 6; i++) {
            x.parallel(i, i + 1);
        }
        for (char letter = 'm'; letter < 'u'; letter++) {
            x.bar(letter);
        }
        for (int province = 0; province < 4; province++) {
            x.quota(province, 24);
        }
        Check.feed(x, Check.repeat("a", " ", 125) + "a");
        return x;
    }

    /** The twins see what is changed: else it would say nothing that they see no change by a refusal. */
    private static void takenAreSeen() {
        Supplier<ExamHalls> some = RefusalsTest::some;
        Twins.taken("candidate(0)", some, x -> x.candidate(0), 4);
        Twins.taken("feed('a', 1)", some, x -> x.feed('a', 1), 15);
        Twins.taken("essay(3)", some, x -> x.essay(3), 3);
        Twins.taken("form(2)", some, x -> x.form(2), 1);
        Twins.taken("measure(0, 2, 12)", some, x -> x.measure(0, 2, 12), 0);
        Twins.taken("measure(7, 2, 4)", some, x -> x.measure(7, 2, 4), 0);
        Twins.taken("parallel(0, 1)", some, x -> x.parallel(0, 1), 1);
        Twins.taken("bar('z')", some, x -> x.bar('z'), 2);
        Twins.taken("number(3, 0)", some, x -> x.number(3, 0), NONE);
        Twins.taken("sees(7, 1, 1, 2)", some, x -> x.sees(7, 1, 1, 2), 1);
        Twins.taken("reader(1, 1)", some, x -> x.reader(1, 1), 3);
        Twins.taken("again()", some, x -> x.again(), 1);
        Twins.taken("apart(11)", some, x -> x.apart(11), 10);
        Twins.taken("mark(0, 1, 51)", some, x -> x.mark(0, 1, 51), 1);
        Twins.taken("quota(3, 2)", some, x -> x.quota(3, 2), 0);
        Twins.taken("rule(1, 0)", some, x -> x.rule(1, 0), 0);
        Twins.taken("rule(2, 1)", some, x -> x.rule(2, 1), 0);
        Twins.taken("strike(0, 1)", some, x -> x.strike(0, 1), 0);
        Twins.taken("cell(2, 2)", some, x -> x.cell(2, 2), NONE);
        Twins.taken("kin(2, 3)", some, x -> x.kin(2, 3), 1);
    }

    private static void candidates() {
        for (int province : outOf(3)) {
            refused("candidate(" + province + ")", x -> x.candidate(province), NONE);
            refusedFull("candidate(" + province + ")", x -> x.candidate(province), NONE);
        }
        refusedFull("candidate(0)", x -> x.candidate(0), FULL);
        refusedFull("candidate(3)", x -> x.candidate(3), FULL);
    }

    private static void feeds() {
        for (int n : new int[] {0, 9, -1, LEAST, MOST}) {
            refused("feed(w, " + n + ")", x -> x.feed(0x6162L, n), BAD);
            refusedFull("feed(w, " + n + ")", x -> x.feed(0x6162L, n), BAD);
        }
        for (int n = 1; n <= 8; n++) {
            int bytes = n;
            refusedFull("feed(w, " + n + ")", x -> x.feed(0x6162L, bytes), FULL);
            Twins.refused("feed(w, " + n + ") with room for one less", () -> withRoomFor(bytes - 1),
                    x -> x.feed(0x6162L, bytes), FULL);
        }
    }

    private static ExamHalls withRoomFor(int bytes) {
        ExamHalls x = some();
        x.essay(0);
        Check.feed(x, Check.repeat("a", " ", 125).concat("a").substring(0, 250 - bytes));
        return x;
    }

    private static void essays() {
        for (int c : outOf(3)) {
            refused("essay(" + c + ")", x -> x.essay(c), NONE);
        }
        for (int c : outOf(23)) {
            refusedFull("essay(" + c + ")", x -> x.essay(c), NONE);
        }
    }

    private static void forms() {
        for (int legs : new int[] {0, 9, -1, LEAST, MOST}) {
            refused("form(" + legs + ")", x -> x.form(legs), BAD);
        }
    }

    private static void measures() {
        for (int leg : outOf(7)) {
            refused("measure(" + leg + ", 3, 3)", x -> x.measure(leg, 3, 3), NONE);
        }
        for (int words : new int[] {0, 13, LEAST, MOST}) {
            refused("measure(0, " + words + ", 12)", x -> x.measure(0, words, 12), BAD);
            refused("measure(7, 2, " + words + ")", x -> x.measure(7, 2, words), BAD);
        }
        refused("measure(7, 4, 3)", x -> x.measure(7, 4, 3), BAD);
        refused("measure(0, 12, 1)", x -> x.measure(0, 12, 1), BAD);
        refused("measure(0, 2, 1)", x -> x.measure(0, 2, 1), BAD);
    }

    private static void parallels() {
        for (int leg : outOf(7)) {
            refused("parallel(" + leg + ", 0)", x -> x.parallel(leg, 0), NONE);
            refused("parallel(0, " + leg + ")", x -> x.parallel(0, leg), NONE);
        }
        refused("parallel(0, 0)", x -> x.parallel(0, 0), BAD);
        refused("parallel(7, 7)", x -> x.parallel(7, 7), BAD);
        refusedFull("parallel(0, 7)", x -> x.parallel(0, 7), FULL);
        refusedFull("parallel(0, 1)", x -> x.parallel(0, 1), FULL);
    }

    private static void bars() {
        refused("bar(0)", x -> x.bar(0), BAD);
        refused("bar(')", x -> x.bar(0x60), BAD);
        refused("bar({)", x -> x.bar(0x7b), BAD);
        refused("bar(a, 0)", x -> x.bar(0x6100), BAD);
        refused("bar(q), BARRED", x -> x.bar('q'), BAD);
        refusedFull("bar(m), BARRED", x -> x.bar('m'), BAD);
        refusedFull("bar(t), BARRED", x -> x.bar('t'), BAD);
        refusedFull("bar(a)", x -> x.bar('a'), FULL);
    }

    private static void numbers() {
        for (int c : outOf(3)) {
            refused("number(" + c + ", 1)", x -> x.number(c, 1), NOBODY);
        }
        for (int n : outOf(99)) {
            refused("number(0, " + n + ")", x -> x.number(0, n), BAD);
            refused("number(3, " + n + ")", x -> x.number(3, n), BAD);
        }
        refused("number(0, 31), another's", x -> x.number(0, 31), STATE);
        refused("number(3, 30), another's", x -> x.number(3, 30), STATE);
    }

    private static void sees() {
        for (int hand : outOf(7)) {
            refused("sees(" + hand + ", 0, 0, 3)", x -> x.sees(hand, 0, 0, 3), NONE);
        }
        for (int c : outOf(3)) {
            refused("sees(0, " + c + ", 0, 3)", x -> x.sees(0, c, 0, 3), NONE);
        }
        for (int part : outOf(3)) {
            refused("sees(0, 0, " + part + ", 3)", x -> x.sees(0, 0, part, 3), NONE);
            refused("sees(0, 0, 0, " + part + ")", x -> x.sees(0, 0, 0, part), NONE);
        }
        for (int part = 0; part <= 3; part++) {
            int one = part;
            refused("sees(0, 0, " + one + ", " + one + ")", x -> x.sees(0, 0, one, one), BAD);
        }
    }

    private static void readers() {
        for (int n : outOf(3)) {
            refused("reader(" + n + ", 0)", x -> x.reader(n, 0), NONE);
            refused("reader(0, " + n + ")", x -> x.reader(0, n), NONE);
        }
        refusedFull("reader(0, 0)", x -> x.reader(0, 0), FULL);
        refusedFull("reader(3, 3)", x -> x.reader(3, 3), FULL);
        refusedFull("reader(4, 3)", x -> x.reader(4, 3), NONE);
    }

    private static void aparts() {
        for (int n : outOf(99)) {
            refused("apart(" + n + ")", x -> x.apart(n), BAD);
        }
    }

    private static void marks() {
        for (int c : outOf(3)) {
            refused("mark(" + c + ", 0, 1)", x -> x.mark(c, 0, 1), NONE);
        }
        for (int r : outOf(2)) {
            refused("mark(0, " + r + ", 1)", x -> x.mark(0, r, 1), NONE);
        }
        for (int m : outOf(99)) {
            refused("mark(0, 1, " + m + ")", x -> x.mark(0, 1, m), BAD);
        }
        refused("mark(0, 0, 1), no reading", x -> x.mark(0, 0, 1), STATE);
        refused("mark(3, 0, 1), no reading", x -> x.mark(3, 0, 1), STATE);
    }

    private static void quotasAndRules() {
        for (int province : outOf(3)) {
            refused("quota(" + province + ", 3)", x -> x.quota(province, 3), NONE);
        }
        for (int n : outOf(24)) {
            refused("quota(0, " + n + ")", x -> x.quota(0, n), BAD);
        }
        for (int ties : outOf(2)) {
            refused("rule(" + ties + ", 1)", x -> x.rule(ties, 1), BAD);
        }
        for (int way : outOf(1)) {
            refused("rule(0, " + way + ")", x -> x.rule(0, way), BAD);
            refused("rule(1, " + way + ")", x -> x.rule(1, way), BAD);
        }
    }

    private static void strikes() {
        for (int c : outOf(3)) {
            refused("strike(" + c + ", 1)", x -> x.strike(c, 1), NONE);
        }
        for (int is : outOf(1)) {
            refused("strike(0, " + is + ")", x -> x.strike(0, is), BAD);
            refused("strike(3, " + is + ")", x -> x.strike(3, is), BAD);
        }
    }

    private static void cells() {
        for (int c : outOf(3)) {
            refused("cell(" + c + ", 9)", x -> x.cell(c, 9), NOBODY);
        }
        for (int place : new int[] {-2, 36, LEAST, MOST}) {
            refused("cell(0, " + place + ")", x -> x.cell(0, place), BAD);
        }
        refused("cell(0, 1), somebody is there", x -> x.cell(0, 1), STATE);
        refused("cell(3, 0), somebody is there", x -> x.cell(3, 0), STATE);
    }

    private static void kin() {
        for (int c : outOf(3)) {
            refused("kin(0, " + c + ")", x -> x.kin(0, c), NONE);
            refused("kin(" + c + ", 0)", x -> x.kin(c, 0), NONE);
        }
        refused("kin(0, 0)", x -> x.kin(0, 0), BAD);
        refused("kin(3, 3)", x -> x.kin(3, 3), BAD);
    }

    /** Refused questions, and answered ones: neither changes anything. */
    private static void questions() {
        refused("legs(0, 3)", x -> x.legs(0, 3), NONE);
        refused("legs(0, -1)", x -> x.legs(0, -1), NONE);
        refused("legs(3, 0), no essay", x -> x.legs(3, 0), NONE);
        refused("word(0, 0, 2)", x -> x.word(0, 0, 2), 0);
        refused("word(0, 1, 0)", x -> x.word(0, 1, 0), 0);
        refused("word(3, 0, 0), no essay", x -> x.word(3, 0, 0), 0);
        refused("judge(3), no essay", x -> x.judge(3), NONE);
        refused("like(0, 3), no essay", x -> x.like(0, 3), NONE);
        refused("like(0, 0)", x -> x.like(0, 0), BAD);
        refused("like(0, 1)", x -> x.like(0, 1), 0);
        refused("opens(-1)", x -> x.opens(-1), BAD);
        refused("opens(256)", x -> x.opens(256), BAD);
        refused("opens(255)", x -> x.opens(255), 2);
        refused("fewest()", x -> x.fewest(), 4);
        refused("reading(0, 2, 0)", x -> x.reading(0, 2, 0), NONE);
        refused("reading(0, -1, 0)", x -> x.reading(0, -1, 0), NONE);
        refused("reading(0, 0, 2)", x -> x.reading(0, 0, 2), NONE);
        refused("score(0, 2)", x -> x.score(0, 2), NONE);
        refused("score(0, -1)", x -> x.score(0, -1), NONE);
        refused("score(2, 0), apart", x -> x.score(2, 0), NONE);
        refused("passes(0)", x -> x.passes(0), 0);
        refused("ifStruck(1)", x -> x.ifStruck(1), 1);
        refused("near()", x -> x.near(), 1);
        refused("count(9)", x -> x.count(9), NONE);
        refused("count(-1)", x -> x.count(-1), NONE);
        refused("count(8)", x -> x.count(8), 1);
        refused("share(), nobody lacks one", x -> x.share(), 0);
    }

    private static void questionsOfNobody() {
        for (int c : outOf(3)) {
            refused("legs(" + c + ", 0)", x -> x.legs(c, 0), NONE);
            refused("word(" + c + ", 0, 0)", x -> x.word(c, 0, 0), 0);
            refused("judge(" + c + ")", x -> x.judge(c), NONE);
            refused("like(0, " + c + ")", x -> x.like(0, c), NONE);
            refused("like(" + c + ", 0)", x -> x.like(c, 0), NONE);
            refused("reading(" + c + ", 0, 0)", x -> x.reading(c, 0, 0), NONE);
            refused("score(" + c + ", 0)", x -> x.score(c, 0), NONE);
            refused("passes(" + c + ")", x -> x.passes(c), NONE);
            refused("ifStruck(" + c + ")", x -> x.ifStruck(c), NONE);
            refused("passed(" + (c == 3 ? 4 : c) + ")", x -> x.passed(c == 3 ? 4 : c), NONE);
        }
        for (int r : outOf(2)) {
            refused("load(" + r + ")", x -> x.load(r), NONE);
            refused("shift(" + r + ")", x -> x.shift(r), NO_SHIFT);
        }
    }

    /** "of several the first one told": NONE, BAD, STATE, FULL. */
    private static void theFirstTold() {
        ExamHalls x = some();
        Check.due("measure: NONE, least BAD", x.measure(8, 0, 5), NONE);
        Check.due("measure: NONE, most BAD", x.measure(-1, 5, 13), NONE);
        Check.due("measure: NONE, least above most", x.measure(8, 6, 5), NONE);
        Check.due("parallel: NONE, one", x.parallel(8, 8), NONE);
        Check.due("like: no such ones, one", x.like(4, 4), NONE);
        Check.due("like: no essay, one", x.like(3, 3), NONE);
        Check.due("like: no essay, no such one", x.like(3, 4), NONE);
        Check.due("number: none such, BAD", x.number(4, 100), NOBODY);
        Check.due("number: none such, another one's", x.number(4, 31), NOBODY);
        Check.due("sees: no hand, one", x.sees(8, 0, 2, 2), NONE);
        Check.due("sees: no candidate, one", x.sees(0, 4, 2, 2), NONE);
        Check.due("sees: no such parts, one", x.sees(0, 0, 4, 4), NONE);
        Check.due("mark: no candidate, BAD", x.mark(4, 0, 100), NONE);
        Check.due("mark: no reader, BAD", x.mark(0, 3, 100), NONE);
        Check.due("mark: no reader, no reading", x.mark(3, 3, 50), NONE);
        Check.due("mark: BAD, no reading", x.mark(0, 0, 100), BAD);
        Check.due("mark: BAD below, no reading", x.mark(3, 0, -1), BAD);
        Check.due("quota: NONE, BAD", x.quota(4, 25), NONE);
        Check.due("strike: NONE, BAD", x.strike(4, 2), NONE);
        Check.due("cell: none such, BAD", x.cell(4, 36), NOBODY);
        Check.due("cell: none such, somebody is there", x.cell(4, 0), NOBODY);
        Check.due("kin: NONE, one", x.kin(4, 4), NONE);
        Check.due("reading: no i, no what", x.reading(0, 2, 2), NONE);
        Check.due("score: no candidate, no way", x.score(4, 2), NONE);
    }

    private static void theFirstToldWhereAllIsFull() {
        ExamHalls x = full();
        Check.due("candidate: NONE, FULL", x.candidate(4), NONE);
        Check.due("candidate: NONE below, FULL", x.candidate(-1), NONE);
        Check.due("feed: BAD, FULL", x.feed('a', 9), BAD);
        Check.due("feed: BAD below, FULL", x.feed('a', 0), BAD);
        Check.due("parallel: NONE, FULL", x.parallel(0, 8), NONE);
        Check.due("parallel: NONE, one, FULL", x.parallel(-1, -1), NONE);
        Check.due("parallel: one, FULL", x.parallel(3, 3), BAD);
        Check.due("bar: no word, FULL", x.bar(0), BAD);
        Check.due("bar: BARRED, FULL", x.bar('m'), BAD);
        Check.due("reader: no province, FULL", x.reader(4, 0), NONE);
        Check.due("reader: no room, FULL", x.reader(0, 4), NONE);
    }
}
