/** Terms 1 and 4, promises 32 to 35: each sentence that names an edge of cells, kin and what is counted. */
public final class EdgesOfCellsTest {
    private static final int NONE = -1, BAD = -2, STATE = -3, NOBODY = -5;
    private static final int LEAST = Integer.MIN_VALUE, MOST = Integer.MAX_VALUE;

    public static void main(String[] args) {
        cellsWithin();
        cellOfNobody();
        nobodyElseThere();
        inNone();
        kinOfNobody();
        kinOfOneself();
        kinOnce();
        everybodyKin();
        besideInARow();
        rowsEnds();
        besideInAColumn();
        nearOnlyInCells();
        nearOnlyKin();
        countsWithin();
        countsEmptyAndFull();
        countsGoDown();
        Check.end();
    }

    // "a CELL 0 .. 35"; "A CANDIDATE is in a CELL (-1: in none): where it was (NONE: in none) ... BAD"
    private static void cellsWithin() {
        ExamHalls x = Check.hallsOf(0);
        int[] bad = {-2, 36, -5, 256, LEAST, MOST};
        for (int c : bad) {
            Check.due("cell(0, " + c + ")", x.cell(0, c), BAD);
        }
        int was = NONE;
        for (int c = 0; c < 36; c++) {
            Check.due("cell(0, " + c + ")", x.cell(0, c), was);
            was = c;
        }
        for (int c : bad) {
            Check.due("cell(0, " + c + ")", x.cell(0, c), BAD);
        }
        Check.due("35 still", x.cell(0, -1), 35);
        Check.due("none then", x.cell(0, -1), NONE);
    }

    // "-5: there is no such CANDIDATE"
    private static void cellOfNobody() {
        ExamHalls x = new ExamHalls();
        Check.due("nobody at all", x.cell(0, 0), NOBODY);
        x.candidate(0);
        x.cell(0, 5);
        int[] nobody = {1, -1, 24, LEAST, MOST};
        for (int c : nobody) {
            Check.due("cell(" + c + ", 0)", x.cell(c, 0), NOBODY);
            Check.due("cell(" + c + ", -1)", x.cell(c, -1), NOBODY);
            Check.due("cell(" + c + ", 36)", x.cell(c, 36), NOBODY);
            Check.due("cell(" + c + ", 5), another's", x.cell(c, 5), NOBODY);
        }
    }

    // "(six a row; nobody else there)"; "STATE: somebody else is there."
    private static void nobodyElseThere() {
        ExamHalls x = new ExamHalls();
        for (int c = 0; c < 24; c++) {
            x.candidate(0);
            Check.due("cell of " + c, x.cell(c, c + 12), NONE);
        }
        for (int c = 0; c < 24; c++) {
            Check.due("the last one's cell", x.cell(c, 35), c == 23 ? 35 : STATE);
            Check.due("the first one's cell", x.cell(c, 12), c == 0 ? 12 : STATE);
            Check.due("its own again", x.cell(c, c + 12), c + 12);
        }
        x.strike(0, 1);
        Check.due("a struck one is there, too", x.cell(1, 12), STATE);
        Check.due("refused, it is where it was", x.cell(1, 0), 13);
        Check.due("13 is free", x.cell(0, 13), 12);
        Check.due("and 12", x.cell(1, 12), 0);
        Check.due("and 0", x.cell(23, 0), 35);
    }

    private static void inNone() {
        ExamHalls x = Check.hallsOf(0, 0);
        Check.due("in none", x.cell(0, -1), NONE);
        Check.due("another in none, too", x.cell(1, -1), NONE);
        Check.due("in 0", x.cell(0, 0), NONE);
        Check.due("another in none still", x.cell(1, -1), NONE);
        Check.due("out", x.cell(0, -1), 0);
        Check.due("0 is free", x.cell(1, 0), NONE);
        Check.due("for one alone", x.cell(0, 0), STATE);
    }

    // "Two are KIN: 1, 0 if they were. NONE; BAD: they are one."
    private static void kinOfNobody() {
        ExamHalls x = Check.hallsOf(0, 0);
        int[] nobody = {2, -1, 24, 32, LEAST, MOST};
        for (int c : nobody) {
            Check.due("kin(0, " + c + ")", x.kin(0, c), NONE);
            Check.due("kin(" + c + ", 0)", x.kin(c, 0), NONE);
            Check.due("kin(" + c + ", " + c + ")", x.kin(c, c), NONE);
        }
        Check.due("none by that", x.kin(0, 1), 1);
    }

    private static void kinOfOneself() {
        ExamHalls x = Check.hallsOf(0, 0);
        Check.due("kin(0, 0)", x.kin(0, 0), BAD);
        Check.due("kin(1, 1)", x.kin(1, 1), BAD);
        Check.due("none by that", x.kin(0, 1), 1);
        Check.due("kin(1, 1) of one with kin", x.kin(1, 1), BAD);
    }

    private static void kinOnce() {
        ExamHalls x = Check.hallsOf(0, 0, 0);
        Check.due("kin", x.kin(0, 1), 1);
        Check.due("they were", x.kin(0, 1), 0);
        Check.due("they were, turned", x.kin(1, 0), 0);
        Check.due("another pair", x.kin(1, 2), 1);
        Check.due("not by one between", x.kin(2, 0), 1);
        Check.due("they were, too", x.kin(0, 2), 0);
    }

    private static void everybodyKin() {
        ExamHalls x = new ExamHalls();
        for (int c = 0; c < 24; c++) {
            x.candidate(0);
            x.cell(c, c);
        }
        for (int a = 0; a < 24; a++) {
            for (int b = 0; b < a; b++) {
                Check.due("kin(" + a + ", " + b + ")", x.kin(a, b), 1);
            }
        }
        Check.due("four rows of six: 20 beside, 18 below", x.near(), 38);
    }

    /** How many are near of two that are kin and in these cells. */
    private static int near(int one, int other) {
        ExamHalls x = Check.hallsOf(0, 0);
        x.kin(0, 1);
        x.cell(0, one);
        x.cell(1, other);
        return x.near();
    }

    // "KIN in CELLS are NEAR: in one row beside one another"
    private static void besideInARow() {
        for (int row = 0; row < 6; row++) {
            for (int column = 0; column < 5; column++) {
                int cell = 6 * row + column;
                Check.due(cell + " and the next", near(cell, cell + 1), 1);
                Check.due(cell + " and the next, turned", near(cell + 1, cell), 1);
                if (column < 4) {
                    Check.due(cell + " and the next but one", near(cell, cell + 2), 0);
                }
            }
        }
    }

    private static void rowsEnds() {
        for (int row = 0; row < 5; row++) {
            int last = 6 * row + 5;
            Check.due(last + " and the next row's first", near(last, last + 1), 0);
            Check.due(last + " and the next row's first, turned", near(last + 1, last), 0);
            Check.due(last + " and its own row's first", near(last, last - 5), 0);
            Check.due(last + " and the next row's last but one", near(last, last + 5), 0);
        }
        Check.due("the last of all and the first", near(35, 0), 0);
    }

    // "or in one column of rows beside one another"
    private static void besideInAColumn() {
        for (int cell = 0; cell < 30; cell++) {
            Check.due(cell + " and below", near(cell, cell + 6), 1);
            Check.due(cell + " and above", near(cell + 6, cell), 1);
            if (cell < 24) {
                Check.due(cell + " and below but one", near(cell, cell + 12), 0);
            }
            if (cell % 6 < 5) {
                Check.due(cell + " and cornerwise", near(cell, cell + 7), 0);
                Check.due(cell + 1 + " and cornerwise", near(cell + 1, cell + 6), 0);
            }
        }
        Check.due("a column's first and last", near(0, 30), 0);
    }

    private static void nearOnlyInCells() {
        Check.due("both in none", near(-1, -1), 0);
        Check.due("one in none, one in 0", near(-1, 0), 0);
        Check.due("one in 0, one in none", near(0, -1), 0);
        Check.due("one in none, one in 5", near(-1, 5), 0);
        Check.due("one in 5, one in none", near(5, -1), 0);
        ExamHalls x = Check.hallsOf(0, 0);
        x.kin(0, 1);
        x.cell(0, 0);
        x.cell(1, 1);
        Check.due("in cells", x.near(), 1);
        x.cell(1, -1);
        Check.due("one goes out", x.near(), 0);
        x.cell(1, 1);
        x.cell(0, -1);
        Check.due("the other goes out", x.near(), 0);
    }

    private static void nearOnlyKin() {
        ExamHalls x = Check.hallsOf(0, 0, 0);
        Check.due("no candidates near", new ExamHalls().near(), 0);
        x.cell(0, 0);
        x.cell(1, 1);
        x.cell(2, 2);
        Check.due("not kin", x.near(), 0);
        x.kin(2, 0);
        Check.due("kin that are not near", x.near(), 0);
        x.kin(2, 1);
        Check.due("one pair", x.near(), 1);
        x.kin(0, 1);
        Check.due("two pairs", x.near(), 2);
        x.strike(1, 1);
        Check.due("struck or not", x.near(), 2);
    }

    // "0 CANDIDATES ... 8 who pass. NONE."
    private static void countsWithin() {
        ExamHalls x = Check.hallsOf(0);
        int[] none = {-1, 9, 256, LEAST, MOST};
        for (int what : none) {
            Check.due("count(" + what + ")", x.count(what), NONE);
        }
        Check.due("count(0)", x.count(0), 1);
        Check.due("count(8)", x.count(8), 0);
    }

    private static void countsEmptyAndFull() {
        ExamHalls x = new ExamHalls();
        for (int what = 0; what <= 8; what++) {
            Check.due("empty: count(" + what + ")", x.count(what), 0);
        }
        for (int r = 0; r < 6; r++) {
            x.reader(1, r % 4);
        }
        for (int c = 0; c < 24; c++) {
            x.candidate(0);
            x.number(c, c);
            Check.write(x, c, "a");
        }
        x.share();
        for (int c = 0; c < 24; c++) {
            x.mark(c, x.reading(c, 0, 0), 50);
            x.mark(c, x.reading(c, 1, 0), 50);
        }
        for (int i = 0; i < 9; i++) {
            x.parallel(6, 7);
            x.bar('m' + i);
        }
        for (int c = 0; c < 31; c++) {
            x.feed(-1, 8);
        }
        x.feed(-1, 2);
        x.quota(0, 24);
        int[] full = {24, 6, 24, 6, 8, 250, 0, 48, 24};
        for (int what = 0; what <= 8; what++) {
            Check.due("full: count(" + what + ")", x.count(what), full[what]);
        }
        for (int c = 0; c < 24; c++) {
            x.strike(c, 1);
        }
        Check.due("all struck", x.count(6), 24);
        Check.due("none passes", x.count(8), 0);
        Check.due("marks of struck ones are some, too", x.count(7), 48);
        Check.due("essays of struck ones, too", x.count(2), 24);
    }

    private static void countsGoDown() {
        ExamHalls x = Check.hallsOf(0, 0);
        Check.feed(x, "ab");
        Check.due("bytes", x.count(5), 2);
        x.essay(0);
        Check.due("none then", x.count(5), 0);
        Check.write(x, 0, "b");
        Check.due("one essay in place of one", x.count(2), 1);
        x.strike(0, 1);
        x.strike(0, 1);
        Check.due("struck twice is one", x.count(6), 1);
        x.strike(0, 0);
        Check.due("none any more", x.count(6), 0);
        x.number(0, 1);
        x.reader(1, 1);
        x.reader(1, 2);
        x.share();
        Check.due("a reading without a mark is none", x.count(7), 0);
        x.mark(0, 0, 0);
        Check.due("one of two readings", x.count(7), 1);
        x.mark(0, 0, 99);
        Check.due("a mark in place of one", x.count(7), 1);
        x.mark(0, 1, 0);
        Check.due("both", x.count(7), 2);
    }
}
