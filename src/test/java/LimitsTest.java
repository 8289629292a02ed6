import java.lang.management.ManagementFactory;
import java.util.Random;

/** No arguments make a call fail in any state, refusals change nothing, and calls make next to nothing. */
public final class LimitsTest {
    private static final int[] EDGES = {Integer.MIN_VALUE, Integer.MIN_VALUE + 1, -1001, -257, -8, -5, -4, -3, -2, -1,
        0, 1, 2, 3, 4, 5, 6, 7, 8, 9, 11, 12, 13, 23, 24, 25, 35, 36, 98, 99, 100, 101, 249, 255, 256, 257,
        1 << 16, 1 << 30, Integer.MAX_VALUE - 1, Integer.MAX_VALUE};

    public static void main(String[] args) {
        constants();
        edgesInRandomStates();
        refusalsInTheirOrder();
        whatARunMakes();
        Check.end();
    }

    private static void constants() {
        Check.due("NONE", ExamHalls.NONE, -1);
        Check.due("BAD", ExamHalls.BAD, -2);
        Check.due("STATE", ExamHalls.STATE, -3);
        Check.due("FULL", ExamHalls.FULL, -4);
    }

    private static int edge(Random random) {
        return EDGES[random.nextInt(EDGES.length)];
    }

    /** Anything thrown ends the test; what is not refused may be any number. */
    private static void edgesInRandomStates() {
        for (int seed = 0; seed < 3000; seed++) {
            Random random = new Random(seed);
            ExamHalls x = full();
            for (int calls = 0; calls < 300; calls++) {
                call(x, random.nextInt(36), random);
            }
        }
        Check.isTrue("no call failed", true);
    }

    private static long call(ExamHalls x, int which, Random r) {
        int a = edge(r);
        int b = edge(r);
        int c = edge(r);
        int d = edge(r);
        return switch (which) {
            case 0 -> x.candidate(a);
            case 1 -> x.feed(r.nextLong(), a);
            case 2 -> x.essay(a);
            case 3 -> x.legs(a, b);
            case 4 -> x.word(a, b, c);
            case 5 -> x.form(a);
            case 6 -> x.measure(a, b, c);
            case 7 -> x.parallel(a, b);
            case 8 -> x.bar(r.nextLong());
            case 9 -> x.judge(a);
            case 10 -> x.like(a, b);
            case 11 -> x.number(a, b);
            case 12 -> x.sees(a, b, c, d);
            case 13 -> x.opens(a);
            case 14 -> x.fewest();
            case 15 -> x.reader(a, b);
            case 16 -> x.share();
            case 17 -> x.again();
            case 18 -> x.apart(a);
            case 19 -> x.reading(a, b, c);
            case 20 -> x.mark(a, b, c);
            case 21 -> x.load(a);
            case 22 -> x.shift(a);
            case 23 -> x.score(a, b);
            case 24 -> x.quota(a, b);
            case 25 -> x.rule(a, b);
            case 26 -> x.passes(a);
            case 27 -> x.passed(a);
            case 28 -> x.strike(a, b);
            case 29 -> x.ifStruck(a);
            case 30 -> x.cell(a, b);
            case 31 -> x.kin(a, b);
            case 32 -> x.near();
            default -> x.count(a);
        };
    }

    /** As much of everything as there may be. */
    private static ExamHalls full() {
        ExamHalls x = new ExamHalls();
        for (int r = 0; r < 6; r++) {
            x.reader(1 + r % 3, r % 4);
        }
        for (int c = 0; c < 24; c++) {
            x.candidate(c % 2);
            x.number(c, 4 * c);
            x.cell(c, c);
            Check.write(x, c, c == 0 ? Check.repeat(Check.repeat("a", " ", 12), "\n", 8) : "a b a");
        }
        x.share();
        for (int i = 0; i < 6; i++) {
            x.parallel(i, i + 1);
        }
        for (char letter = 'm'; letter < 'u'; letter++) {
            x.bar(letter);
        }
        for (int province = 0; province < 4; province++) {
            x.quota(province, 24);
        }
        return x;
    }

    /** Where several refusals hold at once, the one that is told first. */
    private static void refusalsInTheirOrder() {
        ExamHalls x = full();
        Check.due("candidate: NONE, FULL", x.candidate(4), -1);
        Check.due("candidate: FULL", x.candidate(3), -4);
        Check.due("reader: NONE, FULL", x.reader(0, 4), -1);
        Check.due("reader: FULL", x.reader(0, 3), -4);
        Check.due("measure: NONE, BAD", x.measure(8, 5, 4), -1);
        Check.due("parallel: NONE, BAD, FULL", x.parallel(8, 8), -1);
        Check.due("parallel: BAD, FULL", x.parallel(7, 7), -2);
        Check.due("parallel: FULL", x.parallel(0, 7), -4);
        Check.due("bar: BAD, FULL", x.bar('m'), -2);
        Check.due("bar: FULL", x.bar('a'), -4);
        Check.due("like: NONE, BAD", x.like(24, 24), -1);
        Check.due("number: none such, BAD", x.number(24, 100), -5);
        Check.due("number: BAD", x.number(0, 100), -2);
        Check.due("number: STATE", x.number(0, 4), -3);
        Check.due("sees: NONE, BAD", x.sees(8, 0, 1, 1), -1);
        Check.due("mark: NONE, BAD", x.mark(0, 6, 100), -1);
        Check.due("mark: BAD, STATE", x.mark(0, notReading(x), 100), -2);
        Check.due("mark: STATE", x.mark(0, notReading(x), 99), -3);
        Check.due("quota: NONE, BAD", x.quota(4, 25), -1);
        Check.due("strike: NONE, BAD", x.strike(24, 2), -1);
        Check.due("cell: none such, BAD", x.cell(24, 36), -5);
        Check.due("cell: BAD", x.cell(0, 36), -2);
        Check.due("cell: STATE", x.cell(0, 1), -3);
        Check.due("kin: NONE, BAD", x.kin(24, 24), -1);
        Check.feed(x, Check.repeat("a", " ", 125));
        Check.due("feed: BAD, FULL", x.feed(0, 9), -2);
        Check.due("feed: FULL", x.feed(0, 8), -4);
        Check.due("essay: NONE", x.essay(24), -1);
        Check.due("nothing is changed: tape", x.count(5), 249);
        Check.due("nothing is changed: number", x.number(0, 0), 0);
        Check.due("nothing is changed: cell", x.cell(0, 0), 0);
    }

    private static int notReading(ExamHalls x) {
        int r = 0;
        while (r == x.reading(0, 0, 0) || r == x.reading(0, 1, 0)) {
            r++;
        }
        return r;
    }

    /** The room for all calls of a run is small, so that questions must not make objects. */
    private static void whatARunMakes() {
        var thread = (com.sun.management.ThreadMXBean) ManagementFactory.getThreadMXBean();
        ExamHalls x = full();
        ask(x);
        long before = thread.getCurrentThreadAllocatedBytes();
        ask(x);
        long made = thread.getCurrentThreadAllocatedBytes() - before;
        Check.isTrue("bytes made by 512 questions: " + made, made < 4096);
    }

    private static void ask(ExamHalls x) {
        for (int i = 0; i < 32; i++) {
            x.like(i % 24, 3);
            x.judge(i % 24);
            x.word(i % 24, 0, 0);
            x.legs(i % 24, 1);
            x.opens(i);
            x.fewest();
            x.share();
            x.again();
            x.mark(i % 24, 1, i);
            x.score(i % 24, 1);
            x.shift(i % 6);
            x.passes(i % 24);
            x.ifStruck(i % 24);
            x.near();
            x.feed('a', 1);
            x.essay(i % 24);
        }
    }
}
