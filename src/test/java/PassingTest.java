/** Promises 26 to 31: quotas, the rule, who passes and by what rank, struck ones and who moves up. */
public final class PassingTest {
    private static final int NONE = -1, BAD = -2;

    public static void main(String[] args) {
        quotas();
        rules();
        whoIsFit();
        theGreatestFirst();
        tiesAtTheEnd();
        tiesThatAreNotAtTheEnd();
        tiesByNumbers();
        quotaOfNone();
        byScaled();
        ranksOverProvinces();
        ranksByScaled();
        striking();
        ifStruck();
        ifStruckWithTies();
        askedFirst();
        Check.end();
    }

    /** Candidates of province 0, numbered from 0 on; each has twice its mark as score. */
    private static ExamHalls marked(int... marks) {
        ExamHalls x = new ExamHalls();
        x.reader(3, 0);
        x.reader(3, 1);
        for (int mark : marks) {
            enter(x, 0, mark);
        }
        return x;
    }

    private static int enter(ExamHalls x, int province, int mark) {
        int c = x.candidate(province);
        x.number(c, c);
        Check.write(x, c, "a");
        x.share();
        x.mark(c, 0, mark);
        x.mark(c, 1, mark);
        return c;
    }

    private static void due(String what, ExamHalls x, int... ranks) {
        int passed = 0;
        for (int c = 0; c < ranks.length; c++) {
            Check.due(what + ": passes(" + c + ")", x.passes(c), ranks[c]);
            passed += ranks[c] > 0 ? 1 : 0;
        }
        Check.due(what + ": count(8)", x.count(8), passed);
    }

    private static void quotas() {
        ExamHalls x = new ExamHalls();
        Check.due("quota(-1)", x.quota(-1, 3), NONE);
        Check.due("quota(4)", x.quota(4, 3), NONE);
        Check.due("quota(4), badly", x.quota(4, 25), NONE);
        Check.due("quota of -1", x.quota(0, -1), BAD);
        Check.due("quota of 25", x.quota(0, 25), BAD);
        Check.due("quota of 24", x.quota(0, 24), 0);
        Check.due("quota of 0", x.quota(0, 0), 24);
        Check.due("another province's", x.quota(3, 7), 0);
        Check.due("it was 0", x.quota(0, 1), 0);
        Check.due("passed(-1)", x.passed(-1), NONE);
        Check.due("passed(4)", x.passed(4), NONE);
        Check.due("nobody passed", x.passed(3), 0);
        Check.due("passes of nobody", x.passes(0), NONE);
        Check.due("passes of -1", x.passes(-1), NONE);
    }

    private static void rules() {
        ExamHalls x = marked(50, 50);
        x.quota(0, 1);
        due("rule 0 at first", x, 1, 1);
        Check.due("rule(-1, 0)", x.rule(-1, 0), BAD);
        Check.due("rule(3, 0)", x.rule(3, 0), BAD);
        Check.due("rule(1, -1)", x.rule(1, -1), BAD);
        Check.due("rule(1, 2)", x.rule(1, 2), BAD);
        due("refusals change nothing", x, 1, 1);
        Check.due("rule(1, 0)", x.rule(1, 0), 0);
        due("rule 1", x, 0, 0);
        Check.due("rule(2, 1)", x.rule(2, 1), 0);
        due("rule 2", x, 1, 0);
        Check.due("rule(0, 1)", x.rule(0, 1), 0);
        due("rule 0", x, 1, 1);
    }

    private static void whoIsFit() {
        ExamHalls x = marked(50);
        int without = x.candidate(0);
        x.number(without, 77);
        x.quota(0, 5);
        Check.due("one is fit", x.passes(0), 1);
        Check.due("one without essay and score", x.passes(without), 0);
        Check.write(x, without, "b");
        Check.due("one without score", x.passes(without), 0);
        x.share();
        x.mark(without, 0, 0);
        x.mark(without, 1, 11);
        Check.due("apart", x.passes(without), 0);
        x.mark(without, 1, 0);
        Check.due("a score of 0", x.passes(without), 2);
        x.bar('b');
        Check.due("judged", x.passes(without), 0);
        x.form(2);
        Check.due("none judged 0", x.count(8), 0);
        x.form(1);
        x.strike(0, 1);
        Check.due("struck", x.passes(0), 0);
        Check.due("none at all", x.passed(0), 0);
    }

    private static void theGreatestFirst() {
        ExamHalls x = marked(40, 60, 50);
        x.quota(0, 1);
        due("one", x, 0, 1, 0);
        x.quota(0, 2);
        due("two", x, 0, 1, 2);
        x.quota(0, 3);
        due("three", x, 3, 1, 2);
        x.quota(0, 24);
        due("room for more", x, 3, 1, 2);
        Check.due("passed", x.passed(0), 3);
        Check.due("passed of another", x.passed(1), 0);
    }

    private static void tiesAtTheEnd() {
        ExamHalls x = marked(60, 50, 50, 50, 40);
        x.quota(0, 3);
        due("rule 0: all", x, 1, 2, 2, 2, 0);
        Check.due("more than the quota", x.passed(0), 4);
        x.rule(1, 0);
        due("rule 1: none", x, 1, 0, 0, 0, 0);
        x.rule(2, 0);
        due("rule 2: as many as there is room for", x, 1, 2, 2, 0, 0);
    }

    private static void tiesThatAreNotAtTheEnd() {
        for (int rule = 0; rule <= 2; rule++) {
            ExamHalls x = marked(60, 50, 50, 40);
            x.rule(rule, 0);
            x.quota(0, 1);
            due("room for the first, rule " + rule, x, 1, 0, 0, 0);
            x.quota(0, 3);
            due("room for all of them, rule " + rule, x, 1, 2, 2, 0);
            x.quota(0, 4);
            due("ranks behind them, rule " + rule, x, 1, 2, 2, 4);
        }
    }

    private static void tiesByNumbers() {
        ExamHalls x = marked(50, 50, 50, 50);
        x.quota(0, 2);
        x.rule(2, 0);
        due("the least numbers", x, 1, 1, 0, 0);
        x.number(0, 99);
        x.number(3, 0);
        due("other numbers", x, 0, 1, 0, 1);
        x.number(1, 98);
        due("others again", x, 0, 0, 1, 1);
        x.strike(2, 1);
        due("without a struck one", x, 0, 1, 0, 1);
    }

    private static void quotaOfNone() {
        for (int rule = 0; rule <= 2; rule++) {
            ExamHalls x = marked(50, 50);
            x.rule(rule, 0);
            due("quota 0 at first, rule " + rule, x, 0, 0);
        }
    }

    private static void byScaled() {
        ExamHalls x = Check.hallsOf(0, 0, 0);
        for (int r = 0; r < 3; r++) {
            x.reader(1, r);
        }
        for (int c = 0; c < 3; c++) {
            x.number(c, c);
            Check.write(x, c, "a");
        }
        x.share();
        Check.due("candidate 0 is read by 0 and 1", x.reading(0, 1, 0), 1);
        Check.due("candidate 1 is read by 2 and 0", x.reading(1, 0, 0), 2);
        Check.due("candidate 2 is read by 1 and 2", x.reading(2, 1, 0), 2);
        x.mark(0, 0, 50);
        x.mark(0, 1, 58);
        x.mark(1, 2, 50);
        x.mark(1, 0, 60);
        x.mark(2, 1, 53);
        x.mark(2, 2, 60);
        Check.due("shift of 0", x.shift(0), -1);
        Check.due("shift of 1", x.shift(1), -1);
        Check.due("shift of 2", x.shift(2), 1);
        x.quota(0, 1);
        due("by score", x, 0, 0, 1);
        x.quota(0, 3);
        due("ranks by score", x, 3, 2, 1);
        x.mark(1, 0, 64);
        x.apart(99);
        due("by score now", x, 3, 1, 2);
        Check.due("scaled of 1", x.score(1, 1), 50 + 3 + 64 - 3);
        Check.due("scaled of 2", x.score(2, 1), 53 - 1 + 60 + 3);
        x.rule(0, 1);
        due("by scaled", x, 3, 2, 1);
        x.quota(0, 1);
        due("one by scaled", x, 0, 0, 1);
    }

    private static void ranksOverProvinces() {
        ExamHalls x = marked(60, 40);
        enter(x, 1, 50);
        enter(x, 1, 60);
        enter(x, 2, 99);
        x.quota(0, 2);
        x.quota(1, 1);
        due("over all provinces, of those who pass", x, 1, 3, 0, 1, 0);
        Check.due("of 0", x.passed(0), 2);
        Check.due("of 1", x.passed(1), 1);
        Check.due("of 2", x.passed(2), 0);
        x.quota(2, 1);
        due("one more of another", x, 2, 4, 0, 2, 1);
        x.quota(1, 2);
        due("and one of the second", x, 2, 5, 4, 2, 1);
    }

    private static void ranksByScaled() {
        ExamHalls x = Check.hallsOf(0, 1);
        x.reader(2, 0);
        x.reader(0, 1);
        x.reader(1, 1);
        for (int c = 0; c < 2; c++) {
            x.number(c, c);
            Check.write(x, c, "a");
        }
        x.share();
        Check.due("candidate 0 is read by 2, too", x.reading(0, 1, 0), 2);
        Check.due("candidate 1 is read by 1 first", x.reading(1, 0, 0), 1);
        x.mark(0, 0, 50);
        x.mark(0, 2, 53);
        x.mark(1, 0, 51);
        x.mark(1, 1, 43);
        x.quota(0, 1);
        x.quota(1, 1);
        due("by score", x, 1, 2);
        x.mark(1, 0, 98);
        x.mark(1, 1, 0);
        x.apart(99);
        Check.due("scores", x.score(0, 0) - x.score(1, 0), 5);
        Check.due("scaled of 0", x.score(0, 1), 2 + 50);
        Check.due("scaled of 1", x.score(1, 1), 50 + 98);
        due("by score still", x, 1, 2);
        x.rule(0, 1);
        due("by scaled", x, 2, 1);
    }

    private static void striking() {
        ExamHalls x = marked(60, 50, 50);
        Check.due("strike of nobody", x.strike(3, 1), NONE);
        Check.due("strike of -1", x.strike(-1, 1), NONE);
        Check.due("nobody, badly", x.strike(3, 2), NONE);
        Check.due("strike 2", x.strike(0, 2), BAD);
        Check.due("strike -1", x.strike(0, -1), BAD);
        Check.due("none struck", x.count(6), 0);
        x.quota(0, 1);
        due("before", x, 1, 0, 0);
        Check.due("struck", x.strike(0, 1), 0);
        Check.due("struck again", x.strike(0, 1), 1);
        Check.due("one struck", x.count(6), 1);
        due("who moves up", x, 0, 1, 1);
        Check.due("not any more", x.strike(0, 0), 1);
        Check.due("it was not", x.strike(0, 0), 0);
        due("as before", x, 1, 0, 0);
    }

    private static void ifStruck() {
        ExamHalls x = marked(60, 50, 50, 40);
        Check.due("of nobody", x.ifStruck(4), NONE);
        Check.due("of -1", x.ifStruck(-1), NONE);
        Check.due("nobody passes anyhow", x.ifStruck(0), 0);
        x.quota(0, 1);
        Check.due("two move up", x.ifStruck(0), 2);
        Check.due("one who does not pass", x.ifStruck(1), 0);
        due("nothing is changed", x, 1, 0, 0, 0);
        Check.due("none is struck", x.count(6), 0);
        x.quota(0, 3);
        Check.due("one moves up", x.ifStruck(0), 1);
        Check.due("and for another", x.ifStruck(2), 1);
        Check.due("none for the last", x.ifStruck(3), 0);
        x.quota(0, 4);
        Check.due("none left to move up", x.ifStruck(0), 0);
        x.quota(0, 1);
        x.strike(0, 1);
        Check.due("struck already", x.ifStruck(0), 0);
        Check.due("two still pass", x.count(8), 2);
        Check.due("one of two alike", x.ifStruck(1), 0);
        enter(x, 1, 99);
        x.quota(1, 1);
        Check.due("of another province", x.ifStruck(4), 0);
    }

    /** What was worked out for an earlier question must not answer this one. */
    private static void askedFirst() {
        ExamHalls x = marked(60, 50, 40);
        x.quota(0, 2);
        Check.due("ifStruck, asked first", x.ifStruck(0), 1);
        x = marked(60, 50, 40);
        x.quota(0, 2);
        Check.due("count(8), asked first", x.count(8), 2);
        x = marked(60, 50, 40);
        x.quota(0, 2);
        Check.due("passed, asked first", x.passed(0), 2);
        x = byShiftsApart();
        x.rule(0, 1);
        Check.due("passes by scaled, asked first", x.passes(0), 0);
        x = byShiftsApart();
        x.rule(0, 1);
        Check.due("the other by scaled, asked first", x.passes(1), 1);
    }

    /** Two for one place: 102 against 100 by score, 53 against 149 scaled. */
    private static ExamHalls byShiftsApart() {
        ExamHalls x = Check.hallsOf(0, 0);
        x.reader(1, 0);
        x.reader(1, 1);
        x.reader(1, 2);
        for (int c = 0; c < 2; c++) {
            x.number(c, c);
            Check.write(x, c, "a");
        }
        x.share();
        x.apart(99);
        x.quota(0, 1);
        x.mark(0, 0, 51);
        x.mark(0, 1, 51);
        x.mark(1, 2, 1);
        x.mark(1, 0, 99);
        return x;
    }

    private static void ifStruckWithTies() {
        ExamHalls x = marked(50, 50, 50);
        x.quota(0, 2);
        x.rule(1, 0);
        Check.due("rule 1: room for two, then", x.ifStruck(2), 2);
        x.rule(2, 0);
        Check.due("rule 2: the third moves up", x.ifStruck(0), 1);
        Check.due("rule 2: the third itself", x.ifStruck(2), 0);
        x.rule(0, 0);
        Check.due("rule 0: all pass anyhow", x.ifStruck(0), 0);
        x = marked(60, 60, 50, 50);
        x.quota(0, 3);
        x.rule(1, 0);
        due("rule 1: no room for both", x, 1, 1, 0, 0);
        Check.due("room for both, then", x.ifStruck(0), 2);
        Check.due("room for the other, then", x.ifStruck(3), 1);
    }
}
