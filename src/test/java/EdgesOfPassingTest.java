/** Terms 4, promises 26 to 31: each sentence that names an edge of quotas, the rule, ranks and struck ones. */
public final class EdgesOfPassingTest {
    private static final int NONE = -1, BAD = -2;
    private static final int LEAST = Integer.MIN_VALUE, MOST = Integer.MAX_VALUE;

    public static void main(String[] args) {
        quotasWithin();
        quotasOfProvinces();
        quotaOfNobody();
        asManyAsTheQuota();
        quotaOfTwentyFour();
        rulesWithin();
        allOfThem();
        noneOfThem();
        leastNumbers();
        roomForAll();
        leastNumbersAtTheEnds();
        rulesOfEachProvince();
        notStruck();
        judgementOfZero();
        aScore();
        theLeastScore();
        byScoreAtFirst();
        alikeByOneWay();
        ranks();
        ranksOfAllWhoPass();
        passesOfNobody();
        passedOfAProvince();
        struckOrNot();
        strikeOfNobody();
        ifStruckOfNobody();
        ifStruckOfOneWhoDoesNotPass();
        ifStruckUpToAll();
        ifStruckByRules();
        ifStruckChangesNothing();
        Check.end();
    }

    /** Candidates of province 0, numbered from 0 on; each has twice its mark as score. */
    private static ExamHalls marked(int... marks) {
        ExamHalls x = new ExamHalls();
        x.reader(3, 0);
        x.reader(3, 1);
        for (int mark : marks) {
            enter(x, 0, mark);
        }
        return x;
    }

    private static int enter(ExamHalls x, int province, int mark) {
        int c = x.candidate(province);
        x.number(c, c);
        Check.write(x, c, "a");
        x.share();
        x.mark(c, 0, mark);
        x.mark(c, 1, mark);
        return c;
    }

    /** The ranks that are due; by them how many pass, too. */
    private static void due(String what, ExamHalls x, int... ranks) {
        int passing = 0;
        for (int c = 0; c < ranks.length; c++) {
            Check.due(what + ": passes(" + c + ")", x.passes(c), ranks[c]);
            passing += ranks[c] > 0 ? 1 : 0;
        }
        Check.due(what + ": count(8)", x.count(8), passing);
    }

    // "QUOTAS of PROVINCES (0 .. 24; 0 at first)"; "QUOTA: what it was. NONE; BAD."
    private static void quotasWithin() {
        ExamHalls x = new ExamHalls();
        int[] bad = {-1, 25, 256, LEAST, MOST};
        for (int province = 0; province < 4; province++) {
            for (int n : bad) {
                Check.due("quota(" + province + ", " + n + ")", x.quota(province, n), BAD);
            }
            int was = 0;
            for (int n = 0; n <= 24; n++) {
                Check.due("quota(" + province + ", " + n + ")", x.quota(province, n), was);
                was = n;
            }
            for (int n : bad) {
                Check.due("quota(" + province + ", " + n + ")", x.quota(province, n), BAD);
            }
            Check.due("24 still", x.quota(province, 24), 24);
        }
    }

    private static void quotasOfProvinces() {
        ExamHalls x = new ExamHalls();
        int[] none = {-1, 4, 256, LEAST, MOST};
        for (int province : none) {
            Check.due("quota(" + province + ", 1)", x.quota(province, 1), NONE);
            Check.due("quota(" + province + ", 25)", x.quota(province, 25), NONE);
            Check.due("quota(" + province + ", -1)", x.quota(province, -1), NONE);
        }
        for (int province = 0; province < 4; province++) {
            Check.due("0 at first: " + province, x.quota(province, 10 + province), 0);
        }
        for (int province = 0; province < 4; province++) {
            Check.due("its own: " + province, x.quota(province, 0), 10 + province);
        }
    }

    private static void quotaOfNobody() {
        for (int rule = 0; rule <= 2; rule++) {
            for (int way = 0; way <= 1; way++) {
                ExamHalls x = marked(99, 50, 50);
                x.rule(rule, way);
                due("quota 0 at first", x, 0, 0, 0);
                x.quota(0, 1);
                x.quota(0, 0);
                due("quota 0 again", x, 0, 0, 0);
            }
        }
    }

    // "the greatest first, as many as the QUOTA"
    private static void asManyAsTheQuota() {
        for (int rule = 0; rule <= 2; rule++) {
            ExamHalls x = marked(10, 30, 20);
            x.rule(rule, 0);
            x.quota(0, 1);
            due("quota 1 of 3", x, 0, 1, 0);
            x.quota(0, 2);
            due("quota 2 of 3", x, 0, 1, 2);
            x.quota(0, 3);
            due("quota 3 of 3", x, 3, 1, 2);
            x.quota(0, 4);
            due("quota 4 of 3", x, 3, 1, 2);
            x.quota(0, 24);
            due("quota 24 of 3", x, 3, 1, 2);
        }
        ExamHalls x = new ExamHalls();
        x.quota(0, 24);
        Check.due("quota 24 of nobody", x.count(8), 0);
    }

    private static void quotaOfTwentyFour() {
        ExamHalls x = new ExamHalls();
        x.reader(3, 0);
        x.reader(3, 1);
        for (int c = 0; c < 24; c++) {
            enter(x, 0, 40 + c);
        }
        x.quota(0, 24);
        Check.due("24 of 24", x.count(8), 24);
        Check.due("the first rank", x.passes(23), 1);
        Check.due("the last rank", x.passes(0), 24);
        x.quota(0, 23);
        Check.due("23 of 24", x.count(8), 23);
        Check.due("not the least", x.passes(0), 0);
        Check.due("the last but one", x.passes(1), 23);
    }

    // "THE RULE (0 .. 2), by which way (0, 1): 0. BAD."
    private static void rulesWithin() {
        ExamHalls x = marked(50, 50);
        x.quota(0, 1);
        x.rule(2, 0);
        int[] bad = {-1, 3, 256, LEAST, MOST};
        for (int ties : bad) {
            Check.due("rule(" + ties + ", 0)", x.rule(ties, 0), BAD);
            Check.due("rule(" + ties + ", 1)", x.rule(ties, 1), BAD);
        }
        int[] badWays = {-1, 2, 256, LEAST, MOST};
        for (int way : badWays) {
            Check.due("rule(0, " + way + ")", x.rule(0, way), BAD);
            Check.due("rule(1, " + way + ")", x.rule(1, way), BAD);
        }
        due("rule 2 still", x, 1, 0);
        for (int ties = 0; ties <= 2; ties++) {
            for (int way = 0; way <= 1; way++) {
                Check.due("rule(" + ties + ", " + way + ")", x.rule(ties, way), 0);
            }
        }
    }

    // "of those who are alike at its end, if there is not room for all: by THE RULE 0 all of them"
    private static void allOfThem() {
        ExamHalls x = marked(60, 50, 50, 50, 40);
        x.quota(0, 2);
        due("rule 0 at first, room for one of three", x, 1, 2, 2, 2, 0);
        x.rule(0, 0);
        due("rule 0, room for one of three", x, 1, 2, 2, 2, 0);
        x.quota(0, 3);
        due("rule 0, room for two of three", x, 1, 2, 2, 2, 0);
        x = marked(50, 50);
        x.quota(0, 1);
        due("rule 0, all are alike", x, 1, 1);
    }

    // "1 none of them"
    private static void noneOfThem() {
        ExamHalls x = marked(60, 50, 50, 50, 40);
        x.rule(1, 0);
        x.quota(0, 2);
        due("rule 1, room for one of three", x, 1, 0, 0, 0, 0);
        x.quota(0, 3);
        due("rule 1, room for two of three, not for one behind", x, 1, 0, 0, 0, 0);
        x = marked(50, 50);
        x.rule(1, 0);
        x.quota(0, 1);
        due("rule 1, all are alike", x, 0, 0);
    }

    // "2 those with the least NUMBERS, as many as there is room for"
    private static void leastNumbers() {
        ExamHalls x = marked(60, 50, 50, 50, 40);
        x.rule(2, 0);
        x.quota(0, 2);
        due("rule 2, room for one of three", x, 1, 2, 0, 0, 0);
        x.quota(0, 3);
        due("rule 2, room for two of three", x, 1, 2, 2, 0, 0);
        x.number(1, 99);
        due("rule 2, another number", x, 1, 0, 2, 2, 0);
        x.quota(0, 2);
        due("rule 2, another number, room for one", x, 1, 0, 2, 0, 0);
    }

    private static void roomForAll() {
        for (int rule = 0; rule <= 2; rule++) {
            ExamHalls x = marked(60, 60, 50, 50, 40, 40);
            x.rule(rule, 0);
            x.quota(0, 2);
            due("room for the first two", x, 1, 1, 0, 0, 0, 0);
            x.quota(0, 4);
            due("room for four", x, 1, 1, 3, 3, 0, 0);
            x.quota(0, 6);
            due("room for all", x, 1, 1, 3, 3, 5, 5);
            x.quota(0, 3);
            Check.due("alike ahead of the end pass by any rule", x.passes(1), 1);
            Check.due("those behind the end by none", x.passes(4), 0);
        }
    }

    private static void leastNumbersAtTheEnds() {
        ExamHalls x = marked(50, 50, 50, 50);
        x.rule(2, 0);
        x.number(0, 99);
        x.number(1, 98);
        x.number(2, 4);
        x.number(3, 0);
        x.quota(0, 1);
        due("number 0", x, 0, 0, 0, 1);
        x.quota(0, 2);
        due("and 4", x, 0, 0, 1, 1);
        x.quota(0, 3);
        due("98, not 99", x, 0, 1, 1, 1);
        x.quota(0, 4);
        due("and 99", x, 1, 1, 1, 1);
    }

    // "THOSE WHO PASS of a PROVINCE: of its FIT ones"
    private static void rulesOfEachProvince() {
        ExamHalls x = marked(50, 50);
        enter(x, 1, 50);
        enter(x, 1, 50);
        x.rule(2, 0);
        x.quota(0, 1);
        x.quota(1, 1);
        due("one of each, those of another are not alike here", x, 1, 0, 1, 0);
        x.quota(1, 2);
        due("room for all of one", x, 1, 0, 1, 1);
        x.rule(1, 0);
        due("none of the other", x, 0, 0, 1, 1);
        x.quota(0, 0);
        due("a quota of 0 beside it", x, 0, 0, 1, 1);
        ExamHalls y = new ExamHalls();
        y.reader(0, 0);
        y.reader(0, 1);
        enter(y, 3, 50);
        y.quota(0, 1);
        y.quota(2, 1);
        due("other provinces' quotas", y, 0);
        y.quota(3, 1);
        due("the last province's", y, 1);
    }

    // "A CANDIDATE is FIT: not STRUCK, with an ESSAY of JUDGEMENT 0, and a SCORE."
    private static void notStruck() {
        ExamHalls x = marked(60, 50, 40);
        x.quota(0, 1);
        x.strike(0, 1);
        due("the first is struck", x, 0, 1, 0);
        x.strike(1, 1);
        due("the second, too", x, 0, 0, 1);
        x.strike(2, 1);
        due("all are", x, 0, 0, 0);
        x.strike(0, 0);
        due("the first is not any more", x, 1, 0, 0);
    }

    private static void judgementOfZero() {
        ExamHalls x = marked(60, 50);
        x.quota(0, 1);
        Check.write(x, 0, "b");
        x.bar('b');
        due("400", x, 0, 1);
        Check.write(x, 0, "a\na");
        due("102", x, 0, 1);
        Check.write(x, 0, "a a");
        x.measure(0, 1, 1);
        due("200", x, 0, 1);
        x.measure(0, 1, 2);
        due("0", x, 1, 0);
        x.form(2);
        due("101 for both", x, 0, 0);
        Check.write(x, 1, "a\na a");
        x.parallel(0, 1);
        due("300", x, 0, 0);
        Check.write(x, 1, "a\na");
        due("0 of two legs", x, 0, 1);
    }

    private static void aScore() {
        ExamHalls x = marked(60, 50);
        x.quota(0, 1);
        x.mark(0, 1, 49);
        due("apart by 11", x, 0, 1);
        x.mark(0, 1, 50);
        due("by 10", x, 1, 0);
        x.apart(9);
        due("apart by 10", x, 0, 1);
        x.reader(3, 2);
        x.again();
        due("the third mark lacks", x, 0, 1);
        x.mark(0, 2, 0);
        due("told", x, 1, 0);
        int c = x.candidate(0);
        x.number(c, 99);
        Check.write(x, c, "a");
        x.quota(0, 24);
        due("without readings", x, 1, 2, 0);
        x.share();
        due("without marks", x, 1, 2, 0);
        x.mark(c, x.reading(c, 0, 0), 99);
        due("with one mark", x, 1, 2, 0);
    }

    private static void theLeastScore() {
        for (int rule = 0; rule <= 2; rule++) {
            ExamHalls x = marked(0, 99, 0);
            x.rule(rule, rule % 2);
            x.quota(0, 3);
            due("a score of 0 passes", x, 2, 1, 2);
            x.quota(0, 1);
            due("not ahead of 198", x, 0, 1, 0);
        }
    }

    /** Two for one place: by score 102 and 100, by scaled 53 and 149. */
    private static ExamHalls byWay(int way) {
        ExamHalls x = Check.hallsOf(0, 0);
        for (int r = 0; r < 3; r++) {
            x.reader(1, r);
        }
        for (int c = 0; c < 2; c++) {
            x.number(c, c);
            Check.write(x, c, "a");
        }
        x.share();
        x.apart(99);
        x.quota(0, 1);
        x.mark(0, 0, 51);
        x.mark(0, 1, 51);
        x.mark(1, 2, 1);
        x.mark(1, 0, 99);
        if (way >= 0) {
            x.rule(0, way);
        }
        return x;
    }

    // "by SCALED (way 1) or SCORE (way 0; at first)"
    private static void byScoreAtFirst() {
        due("at first", byWay(-1), 1, 0);
        due("way 0", byWay(0), 1, 0);
        due("way 1", byWay(1), 0, 1);
        ExamHalls x = byWay(1);
        x.quota(0, 2);
        due("ranks by way 1", x, 2, 1);
        x.rule(0, 0);
        due("ranks by way 0", x, 1, 2);
    }

    private static void alikeByOneWay() {
        ExamHalls x = byWay(0);
        x.mark(0, 0, 50);
        x.mark(0, 1, 50);
        Check.due("both 100", x.score(0, 0) - x.score(1, 0), 0);
        due("alike by score: rule 0", x, 1, 1);
        x.rule(1, 0);
        due("alike by score: rule 1", x, 0, 0);
        x.rule(1, 1);
        due("not alike by scaled", x, 0, 1);
    }

    // "RANK of one who passes: 1 and how many of all who pass have more."
    private static void ranks() {
        ExamHalls x = marked(50, 60, 60, 50, 40);
        x.quota(0, 24);
        due("ranks alike", x, 3, 1, 1, 3, 5);
        x.strike(1, 1);
        due("without a struck one", x, 2, 0, 1, 2, 4);
    }

    private static void ranksOfAllWhoPass() {
        ExamHalls x = marked(70, 50);
        enter(x, 1, 60);
        enter(x, 2, 60);
        enter(x, 3, 99);
        x.quota(0, 2);
        x.quota(1, 1);
        due("two provinces; those who do not pass do not count", x, 1, 3, 2, 0, 0);
        x.quota(2, 1);
        due("three", x, 1, 4, 2, 2, 0);
        x.quota(0, 1);
        due("one less of the first", x, 1, 0, 2, 2, 0);
    }

    // "Whether one passes: its RANK; 0: it does not. NONE."
    private static void passesOfNobody() {
        ExamHalls x = marked(50);
        x.quota(0, 1);
        Check.due("passes(0)", x.passes(0), 1);
        int[] nobody = {1, -1, 24, LEAST, MOST};
        for (int c : nobody) {
            Check.due("passes(" + c + ")", x.passes(c), NONE);
        }
        x.candidate(0);
        Check.due("one without anything", x.passes(1), 0);
    }

    // "How many of a PROVINCE pass. NONE."
    private static void passedOfAProvince() {
        ExamHalls x = marked(50, 50, 40);
        enter(x, 2, 30);
        int[] none = {-1, 4, 256, LEAST, MOST};
        for (int province : none) {
            Check.due("passed(" + province + ")", x.passed(province), NONE);
        }
        for (int province = 0; province < 4; province++) {
            Check.due("no quota: passed(" + province + ")", x.passed(province), 0);
        }
        x.quota(0, 1);
        x.quota(1, 24);
        x.quota(2, 24);
        Check.due("more than the quota, by rule 0", x.passed(0), 2);
        Check.due("a quota, nobody fit", x.passed(1), 0);
        Check.due("one", x.passed(2), 1);
        Check.due("nobody", x.passed(3), 0);
        x.rule(1, 0);
        Check.due("less than the quota, by rule 1", x.passed(0), 0);
    }

    // "STRUCK (1), or not any more (0): what it was. NONE; BAD."
    private static void struckOrNot() {
        ExamHalls x = Check.hallsOf(0, 0);
        int[] bad = {-1, 2, 256, LEAST, MOST};
        for (int is : bad) {
            Check.due("strike(0, " + is + ")", x.strike(0, is), BAD);
        }
        Check.due("none by that", x.count(6), 0);
        Check.due("not struck at first", x.strike(0, 0), 0);
        Check.due("not struck still", x.strike(0, 1), 0);
        for (int is : bad) {
            Check.due("strike(0, " + is + ")", x.strike(0, is), BAD);
        }
        Check.due("struck", x.strike(0, 1), 1);
        Check.due("struck still", x.strike(0, 0), 1);
        Check.due("not any more", x.strike(0, 0), 0);
        Check.due("the other was never", x.strike(1, 0), 0);
    }

    private static void strikeOfNobody() {
        ExamHalls x = new ExamHalls();
        Check.due("nobody at all", x.strike(0, 1), NONE);
        x.candidate(0);
        int[] nobody = {1, -1, 24, LEAST, MOST};
        for (int c : nobody) {
            Check.due("strike(" + c + ", 1)", x.strike(c, 1), NONE);
            Check.due("strike(" + c + ", 2)", x.strike(c, 2), NONE);
        }
        Check.due("none by that", x.count(6), 0);
    }

    // "IF STRUCK. NONE."
    private static void ifStruckOfNobody() {
        ExamHalls x = new ExamHalls();
        Check.due("nobody at all", x.ifStruck(0), NONE);
        x = marked(60, 50);
        x.quota(0, 1);
        int[] nobody = {2, -1, 24, LEAST, MOST};
        for (int c : nobody) {
            Check.due("ifStruck(" + c + ")", x.ifStruck(c), NONE);
        }
        Check.due("ifStruck(0)", x.ifStruck(0), 1);
    }

    private static void ifStruckOfOneWhoDoesNotPass() {
        ExamHalls x = marked(60, 50, 40);
        Check.due("quota 0", x.ifStruck(0), 0);
        x.quota(0, 1);
        Check.due("one behind the end", x.ifStruck(2), 0);
        Check.due("one next to the end", x.ifStruck(1), 0);
        x.strike(0, 1);
        Check.due("one who is struck", x.ifStruck(0), 0);
        Check.due("the next one then", x.ifStruck(1), 1);
        x.form(2);
        Check.due("nobody is fit", x.ifStruck(1), 0);
    }

    // "how many others would pass then who do not, or not any more"
    private static void ifStruckUpToAll() {
        ExamHalls x = new ExamHalls();
        x.reader(3, 0);
        x.reader(3, 1);
        enter(x, 0, 60);
        for (int c = 1; c < 24; c++) {
            enter(x, 0, 50);
        }
        x.quota(0, 1);
        Check.due("23 move up", x.ifStruck(0), 23);
        x.rule(1, 0);
        Check.due("none by rule 1", x.ifStruck(0), 0);
        x.rule(2, 0);
        Check.due("one by rule 2", x.ifStruck(0), 1);
        x.quota(0, 24);
        Check.due("none is left to move up", x.ifStruck(0), 0);
        Check.due("nor for the last", x.ifStruck(23), 0);
        x.rule(1, 0);
        x.quota(0, 23);
        Check.due("rule 1: one place too few", x.count(8), 1);
        Check.due("all 23 by the first one's place", x.ifStruck(0), 23);
        Check.due("the other 22 by one of them", x.ifStruck(23), 22);
    }

    private static void ifStruckByRules() {
        ExamHalls x = marked(60, 50, 50);
        x.quota(0, 2);
        Check.due("rule 0: they pass already", x.ifStruck(0), 0);
        x.rule(1, 0);
        Check.due("rule 1: both move up", x.ifStruck(0), 2);
        Check.due("rule 1: the other one moves up", x.ifStruck(1), 1);
        x.rule(2, 0);
        Check.due("rule 2: the other one moves up", x.ifStruck(1), 1);
        Check.due("rule 2: the one behind changes nothing", x.ifStruck(2), 0);
        enter(x, 1, 40);
        x.quota(1, 1);
        Check.due("other provinces are not moved", x.ifStruck(3), 0);
        Check.due("of its own province alone", x.ifStruck(0), 1);
    }

    private static void ifStruckChangesNothing() {
        ExamHalls x = marked(60, 50);
        x.quota(0, 1);
        Check.due("one moves up", x.ifStruck(0), 1);
        due("as before", x, 1, 0);
        Check.due("none is struck", x.count(6), 0);
        Check.due("it was not", x.strike(0, 1), 0);
        Check.due("none for a struck one", x.ifStruck(0), 0);
        Check.due("it is struck still", x.strike(0, 0), 1);
        due("as at first", x, 1, 0);
    }
}
