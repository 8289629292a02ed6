/** Promises 32 to 35: cells, kin, who is near, and what is counted. */
public final class CellsTest {
    private static final int NONE = -1, BAD = -2, STATE = -3, NOBODY = -5;

    public static void main(String[] args) {
        cells();
        kin();
        near();
        nearInEveryPlace();
        counts();
        Check.end();
    }

    private static void cells() {
        ExamHalls x = Check.hallsOf(0, 1);
        Check.due("cell of nobody", x.cell(2, 0), NOBODY);
        Check.due("cell of -1", x.cell(-1, 0), NOBODY);
        Check.due("nobody, badly", x.cell(2, 36), NOBODY);
        Check.due("cell -2", x.cell(0, -2), BAD);
        Check.due("cell 36", x.cell(0, 36), BAD);
        Check.due("in none", x.cell(0, -1), NONE);
        Check.due("in 35", x.cell(0, 35), NONE);
        Check.due("somebody else is there", x.cell(1, 35), STATE);
        Check.due("there already", x.cell(0, 35), 35);
        Check.due("both in none", x.cell(1, -1), NONE);
        Check.due("in 0", x.cell(1, 0), NONE);
        Check.due("elsewhere", x.cell(0, 1), 35);
        Check.due("free now", x.cell(1, 35), 0);
        Check.due("out", x.cell(0, -1), 1);
        Check.due("it is in none", x.cell(0, 1), NONE);
    }

    private static void kin() {
        ExamHalls x = Check.hallsOf(0, 1, 2);
        Check.due("kin of nobody", x.kin(0, 3), NONE);
        Check.due("nobody's kin", x.kin(-1, 0), NONE);
        Check.due("nobody twice", x.kin(3, 3), NONE);
        Check.due("one alone", x.kin(2, 2), BAD);
        Check.due("kin", x.kin(0, 1), 1);
        Check.due("they were", x.kin(0, 1), 0);
        Check.due("they were, turned", x.kin(1, 0), 0);
        Check.due("others", x.kin(2, 0), 1);
        Check.due("kin of kin are none by that", x.kin(1, 2), 1);
        ExamHalls full = new ExamHalls();
        for (int c = 0; c < 24; c++) {
            full.candidate(0);
        }
        Check.due("the last two", full.kin(23, 22), 1);
        Check.due("the last two, turned", full.kin(22, 23), 0);
        Check.due("the first and last", full.kin(0, 23), 1);
    }

    private static void near() {
        ExamHalls x = Check.hallsOf(0, 1, 2);
        x.kin(0, 1);
        Check.due("in no cells", x.near(), 0);
        x.cell(0, 0);
        Check.due("one in none", x.near(), 0);
        x.cell(1, 1);
        Check.due("in one row", x.near(), 1);
        x.cell(1, 2);
        Check.due("one between", x.near(), 0);
        x.cell(1, 6);
        Check.due("in one column", x.near(), 1);
        x.cell(1, 12);
        Check.due("a row between", x.near(), 0);
        x.cell(1, 7);
        Check.due("cornerwise", x.near(), 0);
        x.cell(0, 6);
        x.cell(1, 5);
        Check.due("a row's end and the next one's start", x.near(), 0);
        x.cell(2, 0);
        Check.due("not kin", x.near(), 0);
        x.kin(2, 0);
        Check.due("kin", x.near(), 1);
        x.cell(1, 12);
        Check.due("two pairs", x.near(), 2);
        x.strike(0, 1);
        Check.due("struck ones, too", x.near(), 2);
        x.cell(0, -1);
        Check.due("out of the cell", x.near(), 0);
    }

    private static void nearInEveryPlace() {
        for (int a = 0; a < 36; a++) {
            for (int b = 0; b < 36; b++) {
                ExamHalls x = Check.hallsOf(0, 0);
                x.kin(1, 0);
                x.cell(0, a);
                x.cell(1, b);
                boolean beside = b == a + 1 && b % 6 != 0 || b == a - 1 && a % 6 != 0;
                Check.due("near: " + a + ", " + b, x.near(), beside || b == a + 6 || b == a - 6 ? 1 : 0);
            }
        }
    }

    private static void counts() {
        ExamHalls x = Check.hallsOf(0, 0, 0);
        Check.due("count(-1)", x.count(-1), NONE);
        Check.due("count(9)", x.count(9), NONE);
        x.reader(1, 0);
        x.reader(1, 1);
        Check.write(x, 0, "a");
        Check.write(x, 2, "a");
        x.number(0, 0);
        x.number(2, 2);
        x.parallel(0, 1);
        x.bar('b');
        x.strike(1, 1);
        x.share();
        x.mark(0, 0, 10);
        x.mark(0, 1, 10);
        x.mark(2, 0, 10);
        x.quota(0, 3);
        Check.feed(x, "abc d");
        int[] due = {3, 2, 2, 1, 1, 5, 1, 3, 1};
        for (int what = 0; what < due.length; what++) {
            Check.due("count(" + what + ")", x.count(what), due[what]);
        }
    }
}
