/** Terms 3, promises 17 to 25: each sentence that names an edge of readers, readings, marks and scores. */
public final class EdgesOfReadingsTest {
    private static final int NONE = -1, NO_MARK = -2, BAD = -2, STATE = -3, FULL = -4, NO_SHIFT = -1000;
    private static final int LEAST = Integer.MIN_VALUE, MOST = Integer.MAX_VALUE;

    public static void main(String[] args) {
        sixReaders();
        provincesAndRooms();
        loadOfNone();
        readersOfAnotherProvince();
        readersOfAnotherRoom();
        lessThanTwoReadings();
        noneIfNobodyMay();
        byNumbersRising();
        leastLoad();
        ofSeveralTheLeast();
        whoIsShared();
        aThirdOneEach();
        byMoreThanApart();
        apartWithin();
        thirdOnesLikewise();
        readingsOfWhat();
        marksWithin();
        marksOfNone();
        aMarkThere();
        shiftOfNone();
        shiftWithoutAny();
        shiftAtItsEnds();
        shiftCut();
        scoreOfNone();
        scoreOfTwo();
        scoreOfThree();
        likeDifferences();
        scaledWithin();
        scaledByEachReader();
        scaledByMarksAsGiven();
        Check.end();
    }

    /** Candidates of province 0 with essays and the numbers 0, 1 and so on. */
    private static ExamHalls written(int candidates) {
        ExamHalls x = new ExamHalls();
        for (int c = 0; c < candidates; c++) {
            x.candidate(0);
            x.number(c, c);
            Check.write(x, c, "a");
        }
        return x;
    }

    /** One candidate with readings of readers 0 and 1, and these marks. */
    private static ExamHalls readTwice(int m0, int m1) {
        ExamHalls x = written(1);
        x.reader(1, 0);
        x.reader(1, 1);
        x.share();
        x.mark(0, 0, m0);
        x.mark(0, 1, m1);
        return x;
    }

    /** One candidate with readings of readers 0, 1 and 2, and these marks. */
    private static ExamHalls readThrice(int m0, int m1, int m2) {
        ExamHalls x = readTwice(0, 99);
        x.reader(1, 2);
        x.again();
        x.mark(0, 0, m0);
        x.mark(0, 1, m1);
        x.mark(0, 2, m2);
        return x;
    }

    // "READERS are numbered from 0 on, 6 at most"; "A READER more: its number. NONE: province, room; FULL."
    private static void sixReaders() {
        ExamHalls x = new ExamHalls();
        for (int r = 0; r < 6; r++) {
            Check.due("one ahead of the next is not there", x.load(r), NONE);
            Check.due("so many", x.count(1), r);
            Check.due("reader " + r, x.reader(3, 3), r);
            Check.due("it is there", x.load(r), 0);
        }
        Check.due("the 7th", x.reader(3, 3), FULL);
        Check.due("the 7th, elsewhere", x.reader(0, 0), FULL);
        Check.due("the 7th of no province", x.reader(4, 0), NONE);
        Check.due("the 7th in no room", x.reader(0, -1), NONE);
        Check.due("six", x.count(1), 6);
        Check.due("6 is none", x.load(6), NONE);
    }

    // "each of a PROVINCE and in a ROOM 0 .. 3"
    private static void provincesAndRooms() {
        ExamHalls x = new ExamHalls();
        int[] none = {-1, 4, 256, LEAST, MOST};
        for (int n : none) {
            Check.due("reader(" + n + ", 0)", x.reader(n, 0), NONE);
            Check.due("reader(3, " + n + ")", x.reader(3, n), NONE);
            Check.due("reader(" + n + ", " + n + ")", x.reader(n, n), NONE);
        }
        Check.due("none of them is one", x.count(1), 0);
        Check.due("reader(0, 0)", x.reader(0, 0), 0);
        Check.due("reader(3, 3)", x.reader(3, 3), 1);
        Check.due("reader(0, 3)", x.reader(0, 3), 2);
        Check.due("reader(3, 0)", x.reader(3, 0), 3);
    }

    // "LOAD. NONE."
    private static void loadOfNone() {
        ExamHalls x = new ExamHalls();
        Check.due("nobody reads", x.load(0), NONE);
        x = written(24);
        x.reader(1, 0);
        int[] none = {1, -1, 6, LEAST, MOST};
        for (int r : none) {
            Check.due("load(" + r + ")", x.load(r), NONE);
        }
        Check.due("no reading yet", x.load(0), 0);
        x.share();
        Check.due("one of each", x.load(0), 24);
        x.share();
        Check.due("not more", x.load(0), 24);
    }

    // "A reading of a CANDIDATE MAY go to a READER of another PROVINCE"
    private static void readersOfAnotherProvince() {
        for (int own = 0; own < 4; own++) {
            for (int province = 0; province < 4; province++) {
                ExamHalls x = Check.hallsOf(own);
                x.number(0, 0);
                Check.write(x, 0, "a");
                x.reader(province, own);
                Check.due("a candidate of " + own + ", a reader of " + province, x.share(), own == province ? 0 : 1);
            }
        }
    }

    // "in another ROOM than those who have one of it"
    private static void readersOfAnotherRoom() {
        for (int room = 0; room < 4; room++) {
            for (int other = 0; other < 4; other++) {
                ExamHalls x = written(1);
                x.reader(1, room);
                x.reader(2, other);
                Check.due("rooms " + room + ", " + other, x.share(), room == other ? 1 : 2);
            }
        }
        for (int room = 0; room < 4; room++) {
            ExamHalls x = readTwice(0, 99);
            x.reader(2, room);
            Check.due("rooms 0, 1 and " + room, x.again(), room < 2 ? 0 : 1);
        }
        ExamHalls x = written(2);
        x.reader(1, 2);
        Check.due("one reader may read several", x.share(), 2);
    }

    // "who have less than two readings ... each gets, till it has two"
    private static void lessThanTwoReadings() {
        ExamHalls x = written(1);
        x.reader(1, 0);
        Check.due("from none to one", x.share(), 1);
        x.reader(1, 1);
        Check.due("from one to two", x.share(), 1);
        x.reader(1, 2);
        Check.due("not from two", x.share(), 0);
        Check.due("no third", x.reading(0, 2, 0), NONE);
        x = written(1);
        x.reader(1, 0);
        x.reader(1, 1);
        x.reader(1, 2);
        Check.due("from none to two", x.share(), 2);
        Check.due("two and no more", x.load(0) + x.load(1) + x.load(2), 2);
        x = written(24);
        x.reader(1, 0);
        x.reader(1, 1);
        Check.due("all of 24", x.share(), 48);
        Check.due("then nobody", x.share(), 0);
    }

    // "none, if nobody MAY"
    private static void noneIfNobodyMay() {
        ExamHalls x = written(2);
        Check.due("no readers", x.share(), 0);
        x.reader(0, 0);
        Check.due("of its own province alone", x.share(), 0);
        Check.due("no reading", x.reading(0, 0, 0), NONE);
        x.number(1, 99);
        x.candidate(1);
        x.number(2, 50);
        Check.write(x, 2, "a");
        Check.due("one behind those gets one", x.share(), 1);
        Check.due("it is that one", x.reading(2, 0, 0), 0);
    }

    // "by NUMBERS, rising"
    private static void byNumbersRising() {
        ExamHalls x = written(4);
        x.number(0, 99);
        x.number(1, 98);
        x.number(2, 1);
        x.number(3, 0);
        x.reader(1, 0);
        x.reader(1, 1);
        x.reader(1, 2);
        x.share();
        // 0 gets readers 0 and 1; 1 gets 2 and 0; 98 gets 1 and 2; 99 gets 0 and 1.
        Check.due("number 0", 10 * x.reading(3, 0, 0) + x.reading(3, 1, 0), 1);
        Check.due("number 1", 10 * x.reading(2, 0, 0) + x.reading(2, 1, 0), 20);
        Check.due("number 98", 10 * x.reading(1, 0, 0) + x.reading(1, 1, 0), 12);
        Check.due("number 99", 10 * x.reading(0, 0, 0) + x.reading(0, 1, 0), 1);
    }

    // "one for the READER who MAY with the least LOAD"
    private static void leastLoad() {
        ExamHalls x = written(1);
        x.reader(1, 0);
        x.reader(1, 1);
        x.share();
        x.reader(1, 2);
        x.candidate(0);
        x.number(1, 1);
        Check.write(x, 1, "a");
        x.share();
        Check.due("load 0 ahead of load 1", x.reading(1, 0, 0), 2);
        Check.due("then 0", x.reading(1, 1, 0), 0);
        x.candidate(0);
        x.number(2, 2);
        Check.write(x, 2, "a");
        x.share();
        Check.due("1 and 2 have less than 0", x.reading(2, 0, 0), 1);
        Check.due("2 then", x.reading(2, 1, 0), 2);
        x.candidate(1);
        x.number(3, 3);
        Check.write(x, 3, "a");
        x.reader(2, 3);
        x.share();
        Check.due("only one may", x.reading(3, 0, 0), 3);
    }

    // "of several the least"
    private static void ofSeveralTheLeast() {
        ExamHalls x = written(1);
        for (int r = 0; r < 6; r++) {
            x.reader(1, 3 - r % 4);
        }
        x.share();
        Check.due("of six alike", x.reading(0, 0, 0), 0);
        Check.due("of the others", x.reading(0, 1, 0), 1);
        x = written(1);
        x.reader(0, 3);
        x.reader(2, 2);
        x.reader(1, 2);
        x.reader(1, 1);
        x.share();
        Check.due("of those who may", x.reading(0, 0, 0), 1);
        Check.due("of those who may then", x.reading(0, 1, 0), 3);
    }

    // "all CANDIDATES with ESSAY and NUMBER (STRUCK ones, too)"
    private static void whoIsShared() {
        ExamHalls x = Check.hallsOf(0, 0, 0, 0);
        x.reader(1, 0);
        x.reader(1, 1);
        Check.due("neither of both", x.share(), 0);
        x.number(0, 0);
        x.number(3, 99);
        Check.due("a number alone", x.share(), 0);
        Check.write(x, 1, "a");
        Check.due("an essay alone", x.share(), 0);
        Check.write(x, 0, "a");
        Check.due("both", x.share(), 2);
        x.strike(3, 1);
        Check.write(x, 3, "b");
        Check.due("both, and struck", x.share(), 2);
        x.form(8);
        x.number(1, 50);
        Check.due("both, whatever the judgement", x.share(), 2);
        Check.write(x, 0, "c");
        Check.due("a new essay keeps its readings", x.share(), 0);
        Check.due("two readings still", x.reading(0, 1, 0), 1);
    }

    // "likewise, a third one each for those who have two MARKS that are APART"
    private static void aThirdOneEach() {
        ExamHalls x = readTwice(0, 99);
        x.reader(1, 2);
        x.reader(1, 3);
        Check.due("a third", x.again(), 1);
        Check.due("two marks apart, but three readings", x.again(), 0);
        x.mark(0, 2, 50);
        Check.due("three marks apart: no fourth", x.again(), 0);
        Check.due("no reading 3", x.reading(0, 3, 0), NONE);
        x = written(1);
        x.reader(1, 0);
        x.share();
        x.reader(1, 1);
        x.mark(0, 0, 99);
        Check.due("one reading", x.again(), 0);
        x.share();
        Check.due("one mark of two", x.again(), 0);
        x.mark(0, 1, 99);
        Check.due("two marks alike", x.again(), 0);
        x = written(24);
        for (int r = 0; r < 3; r++) {
            x.reader(1, r);
        }
        x.share();
        for (int c = 0; c < 24; c++) {
            x.mark(c, x.reading(c, 0, 0), 0);
            x.mark(c, x.reading(c, 1, 0), 99);
        }
        Check.due("a third for all of 24", x.again(), 24);
        Check.due("then for nobody", x.again(), 0);
        Check.due("24 of each reader", x.load(0) * 10000 + x.load(1) * 100 + x.load(2), 242424);
    }

    // "APART: by more than APART (0 .. 99; 10 at first)"
    private static void byMoreThanApart() {
        for (int apart = -1; apart <= 99; apart++) {
            ExamHalls x = readTwice(99, 99 - Math.max(0, apart < 0 ? 10 : apart));
            int difference = 99 - x.reading(0, 1, 1);
            if (apart >= 0) {
                x.apart(apart);
            }
            x.reader(1, 2);
            Check.due("by " + difference + ", not more: score", x.score(0, 0), 198 - difference);
            Check.due("by " + difference + ", not more: again", x.again(), 0);
            if (difference < 99) {
                x.mark(0, 1, 98 - difference);
                Check.due("by one more: score", x.score(0, 0), NONE);
                Check.due("by one more: scaled", x.score(0, 1), NONE);
                x.mark(0, 0, 98 - difference);
                x.mark(0, 1, 99);
                Check.due("turned: score", x.score(0, 0), NONE);
                Check.due("by one more: again", x.again(), 1);
            }
        }
    }

    // "APART: what it was. BAD."
    private static void apartWithin() {
        ExamHalls x = new ExamHalls();
        int[] bad = {-1, 100, 256, LEAST, MOST};
        for (int n : bad) {
            Check.due("apart(" + n + ")", x.apart(n), BAD);
        }
        int was = 10;
        for (int n = 0; n < 100; n++) {
            Check.due("apart(" + n + ")", x.apart(n), was);
            was = n;
        }
        for (int n : bad) {
            Check.due("apart(" + n + ")", x.apart(n), BAD);
        }
        Check.due("99 still", x.apart(0), 99);
    }

    private static void thirdOnesLikewise() {
        ExamHalls x = Check.hallsOf(0, 1, 0);
        x.reader(2, 0);
        x.reader(2, 1);
        x.number(0, 99);
        x.number(1, 98);
        x.number(2, 0);
        for (int c = 0; c < 3; c++) {
            Check.write(x, c, "a");
        }
        x.share();
        for (int c = 0; c < 3; c++) {
            x.mark(c, 0, 0);
            x.mark(c, 1, 99);
        }
        Check.due("nobody may in their rooms", x.again(), 0);
        x.reader(0, 2);
        x.reader(3, 2);
        x.strike(2, 1);
        Check.due("three, a struck one, too", x.again(), 3);
        Check.due("number 0 first, not by its own province", x.reading(2, 2, 0), 3);
        Check.due("number 98 next, by the least load", x.reading(1, 2, 0), 2);
        Check.due("number 99 last, not by its own province", x.reading(0, 2, 0), 3);
    }

    // "The READER of reading i of a CANDIDATE (what 0), the MARK (1; -2: none yet). NONE."
    private static void readingsOfWhat() {
        ExamHalls x = readThrice(7, 0, 99);
        for (int i = 0; i < 3; i++) {
            Check.due("reader of " + i, x.reading(0, i, 0), i);
        }
        Check.due("mark of 0", x.reading(0, 0, 1), 7);
        Check.due("a mark of 0", x.reading(0, 1, 1), 0);
        Check.due("a mark of 99", x.reading(0, 2, 1), 99);
        int[] none = {-1, 3, 6, LEAST, MOST};
        for (int i : none) {
            Check.due("reading(0, " + i + ", 0)", x.reading(0, i, 0), NONE);
            Check.due("reading(0, " + i + ", 1)", x.reading(0, i, 1), NONE);
        }
        int[] noWhat = {-1, 2, -2, LEAST, MOST};
        for (int what : noWhat) {
            Check.due("reading(0, 0, " + what + ")", x.reading(0, 0, what), NONE);
        }
        int[] nobody = {1, -1, 24, LEAST, MOST};
        for (int c : nobody) {
            Check.due("reading(" + c + ", 0, 0)", x.reading(c, 0, 0), NONE);
            Check.due("reading(" + c + ", 0, 1)", x.reading(c, 0, 1), NONE);
        }
        x = written(1);
        Check.due("no reading at all", x.reading(0, 0, 1), NONE);
        x.reader(1, 0);
        x.share();
        Check.due("none yet", x.reading(0, 0, 1), NO_MARK);
        Check.due("of one reading no second", x.reading(0, 1, 1), NONE);
    }

    // "A MARK (0 .. 99)"; "BAD; STATE: the READER has no reading of the CANDIDATE."
    private static void marksWithin() {
        ExamHalls x = readTwice(50, 50);
        int[] bad = {-1, 100, -2, 256, LEAST, MOST};
        for (int m : bad) {
            Check.due("mark(0, 0, " + m + ")", x.mark(0, 0, m), BAD);
        }
        Check.due("50 still", x.reading(0, 0, 1), 50);
        Check.due("two marks", x.count(7), 2);
        for (int m = 0; m < 100; m++) {
            Check.due("mark(0, 1, " + m + ")", x.mark(0, 1, m), 1);
            Check.due("it is " + m, x.reading(0, 1, 1), m);
        }
    }

    private static void marksOfNone() {
        ExamHalls x = readTwice(50, 50);
        x.reader(1, 2);
        int[] none = {3, -1, 6, LEAST, MOST};
        for (int n : none) {
            Check.due("mark of candidate " + n, x.mark(n, 0, 60), NONE);
            Check.due("mark of reader " + n, x.mark(0, n, 60), NONE);
            Check.due("badly, of candidate " + n, x.mark(n, 0, 100), NONE);
            Check.due("badly, of reader " + n, x.mark(0, n, -1), NONE);
        }
        Check.due("badly, without a reading", x.mark(0, 2, 100), BAD);
        Check.due("without a reading", x.mark(0, 2, 0), STATE);
        Check.due("without a reading still", x.mark(0, 2, 99), STATE);
        Check.due("two marks", x.count(7), 2);
        x.candidate(0);
        Check.due("of one without readings", x.mark(1, 0, 60), STATE);
    }

    // "A MARK: 0; 1 if one was there already (it is this one now)."
    private static void aMarkThere() {
        ExamHalls x = written(1);
        x.reader(1, 0);
        x.share();
        Check.due("a first mark of 0", x.mark(0, 0, 0), 0);
        Check.due("0 was there", x.mark(0, 0, 0), 1);
        Check.due("0 was there again", x.mark(0, 0, 99), 1);
        Check.due("99 now", x.reading(0, 0, 1), 99);
        Check.due("one mark", x.count(7), 1);
    }

    // "SHIFT. -1000: NONE."
    private static void shiftOfNone() {
        ExamHalls x = new ExamHalls();
        Check.due("nobody reads", x.shift(0), NO_SHIFT);
        x = readTwice(0, 10);
        int[] none = {2, -1, 6, LEAST, MOST};
        for (int r : none) {
            Check.due("shift(" + r + ")", x.shift(r), NO_SHIFT);
        }
        Check.due("shift(0)", x.shift(0), 10);
    }

    // "0 without any"
    private static void shiftWithoutAny() {
        ExamHalls x = written(1);
        x.reader(1, 0);
        Check.due("no readings", x.shift(0), 0);
        x.share();
        Check.due("no marks", x.shift(0), 0);
        x.mark(0, 0, 99);
        Check.due("no other reading", x.shift(0), 0);
        x.reader(1, 1);
        x.share();
        Check.due("no other mark", x.shift(0), 0);
        Check.due("no mark of its own", x.shift(1), 0);
        x.mark(0, 1, 99);
        Check.due("a difference of 0", x.shift(0), 0);
    }

    private static void shiftAtItsEnds() {
        ExamHalls x = readTwice(0, 99);
        Check.due("the greatest", x.shift(0), 99);
        Check.due("the least", x.shift(1), -99);
        x = readThrice(0, 99, 99);
        Check.due("the greatest of two", x.shift(0), 99);
        Check.due("with one of 0", x.shift(1), -50);
        x.strike(0, 1);
        Check.due("struck ones, too", x.shift(0), 99);
    }

    // "by how many differences, cut to the greatest whole number not above"
    private static void shiftCut() {
        int[][] due = {{0, 1, 0, 0}, {0, 1, 1, 1}, {0, 1, 2, 1}, {0, 2, 1, 1}, {1, 0, 1, -1}, {1, 0, 0, -1},
            {2, 1, 0, -2}, {3, 0, 3, -2}, {2, 0, 1, -2}, {1, 0, 2, 0}, {9, 0, 0, -9}, {9, 0, 1, -9}, {9, 0, 2, -8}};
        for (int[] row : due) {
            ExamHalls x = readThrice(row[0], row[1], row[2]);
            Check.due("shift of " + row[0] + " against " + row[1] + ", " + row[2], x.shift(0), row[3]);
        }
    }

    // "SCORE (way 0), SCALED (1). NONE: none, too."
    private static void scoreOfNone() {
        ExamHalls x = readTwice(40, 41);
        Check.due("score", x.score(0, 0), 81);
        Check.due("scaled", x.score(0, 1), 81);
        int[] noWay = {-1, 2, 256, LEAST, MOST};
        for (int way : noWay) {
            Check.due("score(0, " + way + ")", x.score(0, way), NONE);
        }
        int[] nobody = {1, -1, 24, LEAST, MOST};
        for (int c : nobody) {
            Check.due("score(" + c + ", 0)", x.score(c, 0), NONE);
            Check.due("score(" + c + ", 1)", x.score(c, 1), NONE);
        }
        x = written(1);
        Check.due("no reading", x.score(0, 0), NONE);
        x.reader(1, 0);
        x.share();
        Check.due("one reading", x.score(0, 0), NONE);
        for (int m : new int[] {0, 5, 50, 99}) {
            x.mark(0, 0, m);
            Check.due("one reading, one mark of " + m, x.score(0, 0), NONE);
            Check.due("one reading, one mark of " + m + ", scaled", x.score(0, 1), NONE);
        }
        x.reader(1, 1);
        x.share();
        for (int m : new int[] {0, 5, 50, 99}) {
            x.mark(0, 0, m);
            Check.due("two readings, one mark of " + m, x.score(0, 0), NONE);
            Check.due("two readings, one mark of " + m + ", scaled", x.score(0, 1), NONE);
        }
        x.strike(0, 1);
        x.mark(0, 1, 99);
        Check.due("two marks, struck", x.score(0, 0), 198);
    }

    // "with two readings: both MARKS together, if they are not APART"
    private static void scoreOfTwo() {
        Check.due("the least", readTwice(0, 0).score(0, 0), 0);
        Check.due("the least, scaled", readTwice(0, 0).score(0, 1), 0);
        Check.due("the greatest", readTwice(99, 99).score(0, 0), 198);
        Check.due("the greatest, scaled", readTwice(99, 99).score(0, 1), 198);
        Check.due("by 10", readTwice(0, 10).score(0, 0), 10);
        Check.due("by 11", readTwice(0, 11).score(0, 0), NONE);
        Check.due("by 10, turned", readTwice(99, 89).score(0, 0), 188);
        Check.due("by 11, turned", readTwice(99, 88).score(0, 0), NONE);
        ExamHalls x = readTwice(0, 99);
        x.apart(99);
        Check.due("nothing is apart by 99", x.score(0, 0), 99);
        x.apart(98);
        Check.due("by 98", x.score(0, 0), NONE);
    }

    // "with three (all three MARKS told, APART or not)"
    private static void scoreOfThree() {
        Check.due("all apart", readThrice(0, 99, 50).score(0, 0), 149);
        Check.due("none apart", readThrice(50, 52, 51).score(0, 0), 103);
        Check.due("all 0", readThrice(0, 0, 0).score(0, 0), 0);
        Check.due("all 99", readThrice(99, 99, 99).score(0, 0), 198);
        ExamHalls x = readTwice(0, 99);
        x.reader(1, 2);
        x.again();
        Check.due("the third mark lacks", x.score(0, 0), NONE);
        x.mark(0, 1, 0);
        Check.due("it lacks, though the two are alike", x.score(0, 0), NONE);
        x.mark(0, 2, 0);
        Check.due("told", x.score(0, 0), 0);
        x.apart(0);
        x.mark(0, 2, 99);
        Check.due("two alike, the third apart", x.score(0, 0), 0);
    }

    // "of the MARKS the two that differ least together (of like differences the greater sum)"
    private static void likeDifferences() {
        int[] marks = {40, 50, 60};
        int[][] orders = {{0, 1, 2}, {0, 2, 1}, {1, 0, 2}, {1, 2, 0}, {2, 0, 1}, {2, 1, 0}};
        for (int[] order : orders) {
            for (int middle = 48; middle <= 52; middle++) {
                marks[1] = middle;
                ExamHalls x = readThrice(marks[order[0]], marks[order[1]], marks[order[2]]);
                int due = middle < 50 ? 40 + middle : middle + 60;
                Check.due("40, " + middle + ", 60 in order " + order[0] + order[1] + order[2], x.score(0, 0), due);
            }
        }
        Check.due("0, 49, 99: the first two", readThrice(0, 49, 99).score(0, 0), 49);
        Check.due("0, 50, 99: the last two", readThrice(0, 50, 99).score(0, 0), 149);
        Check.due("0, 0, 99", readThrice(0, 0, 99).score(0, 0), 0);
        Check.due("0, 99, 99", readThrice(0, 99, 99).score(0, 0), 198);
    }

    // "SCALED is a SCORE in which each MARK is more by its READER's SHIFT (kept within 0 .. 99"
    private static void scaledWithin() {
        for (int mark = 0; mark <= 99; mark++) {
            ExamHalls x = readTwice(mark, mark);
            x.candidate(0);
            x.number(1, 1);
            Check.write(x, 1, "a");
            x.share();
            x.mark(1, 0, 40);
            x.mark(1, 1, 60);
            Check.due("shift up", x.shift(0), 10);
            Check.due("shift down", x.shift(1), -10);
            int due = (mark > 89 ? 99 : mark + 10) + (mark < 10 ? 0 : mark - 10);
            Check.due("scaled of " + mark, x.score(0, 1), due);
            Check.due("as given", x.score(0, 0), 2 * mark);
        }
    }

    // "each MARK is more by its READER's SHIFT": each of six readers has one of its own
    private static void scaledByEachReader() {
        ExamHalls x = written(6);
        for (int r = 0; r < 6; r++) {
            x.reader(1, r % 4);
        }
        x.apart(99);
        Check.due("two for each", x.share(), 12);
        for (int one = 0; one < 6; one += 2) {
            int c = one / 2;
            int shift = 20 + 5 * c;
            Check.due("the readings of " + c, x.mark(c, one, 0), 0);
            Check.due("by two of their own", x.mark(c, one + 1, 2 * shift), 0);
            Check.due("the readings of " + (c + 3), x.mark(c + 3, one, 0), 0);
            Check.due("by the same two", x.mark(c + 3, one + 1, 0), 0);
            Check.due("shift of " + one, x.shift(one), shift);
            Check.due("shift of " + (one + 1), x.shift(one + 1), -shift);
            Check.due("kept from below, more by " + one, x.score(c + 3, 1), shift);
            x.mark(c + 3, one, 99);
            x.mark(c + 3, one + 1, 99);
            Check.due("kept from above, less by " + (one + 1), x.score(c + 3, 1), 99 + 99 - shift);
            Check.due("as given", x.score(c + 3, 0), 198);
        }
    }

    // "APART and the nearest two are by MARKS as given)"
    private static void scaledByMarksAsGiven() {
        ExamHalls x = readTwice(40, 51);
        Check.due("apart as given, alike by shifts", x.score(0, 1), NONE);
        x = readTwice(50, 50);
        x.candidate(0);
        x.number(1, 1);
        Check.write(x, 1, "a");
        x.share();
        x.mark(1, 0, 0);
        x.mark(1, 1, 99);
        Check.due("apart by shifts, alike as given", x.score(0, 1), 99 + 0);
        x = readThrice(10, 60, 98);
        Check.due("shift of 0", x.shift(0), 69);
        Check.due("shift of 1", x.shift(1), -6);
        Check.due("shift of 2", x.shift(2), -63);
        Check.due("60 and 98 as given, 10 and 60 by shifts", x.score(0, 1), 54 + 35);
    }
}
