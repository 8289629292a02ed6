/** Promises 17 to 25: readers, sharing out, third readings, marks, shifts and scores. */
public final class ReadersTest {
    private static final int NONE = -1, BAD = -2, STATE = -3, FULL = -4, NO_SHIFT = -1000;

    public static void main(String[] args) {
        readers();
        sharing();
        sharingByNumbers();
        sharingTheLoad();
        sharingByProvinceAndRoom();
        sharingToWhom();
        again();
        againOnlyToSome();
        apart();
        readings();
        marks();
        loads();
        shifts();
        shiftsAreCutDownwards();
        scoresOfTwo();
        scoresOfThree();
        scaledScores();
        scaledScoresAreKeptWithin();
        Check.end();
    }

    /** Candidates of province 0 with essays and the numbers 0, 1 and so on. */
    private static ExamHalls written(int candidates) {
        ExamHalls x = new ExamHalls();
        for (int c = 0; c < candidates; c++) {
            x.candidate(0);
            x.number(c, c);
            Check.write(x, c, "a");
        }
        return x;
    }

    /** One candidate with two readings, of readers 0 and 1. */
    private static ExamHalls readTwice() {
        ExamHalls x = written(1);
        x.reader(1, 0);
        x.reader(1, 1);
        x.share();
        return x;
    }

    /** One candidate with three readings, of readers 0, 1 and 2, with these marks. */
    private static ExamHalls readThrice(int m0, int m1, int m2) {
        ExamHalls x = readTwice();
        x.reader(1, 2);
        x.mark(0, 0, 0);
        x.mark(0, 1, 99);
        x.again();
        x.mark(0, 0, m0);
        x.mark(0, 1, m1);
        x.mark(0, 2, m2);
        return x;
    }

    private static void readers() {
        ExamHalls x = new ExamHalls();
        Check.due("reader(-1, 0)", x.reader(-1, 0), NONE);
        Check.due("reader(4, 0)", x.reader(4, 0), NONE);
        Check.due("reader(0, -1)", x.reader(0, -1), NONE);
        Check.due("reader(0, 4)", x.reader(0, 4), NONE);
        for (int r = 0; r < 6; r++) {
            Check.due("reader " + r, x.reader(3 - r % 4, r % 4), r);
        }
        Check.due("a 7th", x.reader(0, 0), FULL);
        Check.due("a 7th of no province", x.reader(4, 0), NONE);
        Check.due("a 7th in no room", x.reader(0, 4), NONE);
        Check.due("six", x.count(1), 6);
    }

    private static void sharing() {
        ExamHalls x = written(1);
        Check.due("share without readers", x.share(), 0);
        x.reader(1, 0);
        Check.due("share to one", x.share(), 1);
        Check.due("nobody else may", x.share(), 0);
        x.reader(1, 1);
        x.reader(1, 2);
        Check.due("the second", x.share(), 1);
        Check.due("two are enough", x.share(), 0);
        Check.due("reading 0", x.reading(0, 0, 0), 0);
        Check.due("reading 1", x.reading(0, 1, 0), 1);
        Check.due("no reading 2", x.reading(0, 2, 0), NONE);
    }

    private static void sharingByNumbers() {
        ExamHalls x = written(3);
        x.number(0, 50);
        x.number(1, 99);
        x.number(2, 0);
        x.reader(1, 0);
        x.reader(1, 1);
        x.reader(1, 2);
        Check.due("six readings", x.share(), 6);
        Check.due("number 0: readers 0 and 1", x.reading(2, 0, 0), 0);
        Check.due("number 0: readers 0 and 1 ", x.reading(2, 1, 0), 1);
        Check.due("number 50: reader 2 ", x.reading(0, 0, 0), 2);
        Check.due("number 50: then 0", x.reading(0, 1, 0), 0);
        Check.due("number 99: reader 1", x.reading(1, 0, 0), 1);
        Check.due("number 99: then 2", x.reading(1, 1, 0), 2);
    }

    private static void sharingTheLoad() {
        ExamHalls x = written(1);
        x.reader(1, 0);
        x.reader(1, 1);
        x.share();
        x.reader(1, 2);
        x.reader(1, 3);
        x.candidate(0);
        x.number(1, 1);
        Check.write(x, 1, "b");
        x.share();
        Check.due("the least load first", x.reading(1, 0, 0), 2);
        Check.due("then the next least", x.reading(1, 1, 0), 3);
        for (int r = 0; r < 4; r++) {
            Check.due("load of " + r, x.load(r), 1);
        }
    }

    private static void sharingByProvinceAndRoom() {
        ExamHalls x = written(1);
        x.reader(0, 0);
        Check.due("of one's own province", x.share(), 0);
        x.reader(1, 3);
        x.reader(2, 3);
        Check.due("one of a room", x.share(), 1);
        Check.due("the least of the room", x.reading(0, 0, 0), 1);
        x.reader(0, 2);
        Check.due("own province, other room", x.share(), 0);
        x.reader(1, 2);
        Check.due("other province, other room", x.share(), 1);
        Check.due("the last", x.reading(0, 1, 0), 4);
    }

    private static void sharingToWhom() {
        ExamHalls x = Check.hallsOf(0, 0, 0);
        x.reader(1, 0);
        x.reader(1, 1);
        x.number(0, 1);
        Check.write(x, 1, "a");
        Check.due("neither without essay nor without number", x.share(), 0);
        Check.write(x, 0, "a");
        x.strike(0, 1);
        Check.due("struck ones, too", x.share(), 2);
        x.number(1, 0);
        x.form(5);
        Check.due("whatever the judgement", x.share(), 2);
    }

    private static void again() {
        ExamHalls x = readTwice();
        x.reader(0, 2);
        x.reader(1, 1);
        x.reader(1, 3);
        Check.due("no marks", x.again(), 0);
        x.mark(0, 0, 40);
        Check.due("one mark", x.again(), 0);
        x.mark(0, 1, 50);
        Check.due("by 10, not more", x.again(), 0);
        x.mark(0, 1, 51);
        Check.due("by more than 10", x.again(), 1);
        Check.due("own province and rooms apart", x.reading(0, 2, 0), 4);
        Check.due("not marked yet", x.reading(0, 2, 1), BAD);
        Check.due("its load", x.load(4), 1);
        Check.due("no fourth", x.again(), 0);
        Check.due("no share, either", x.share(), 0);
    }

    private static void againOnlyToSome() {
        ExamHalls x = written(4);
        x.reader(1, 0);
        x.reader(1, 1);
        x.share();
        x.reader(2, 2);
        x.reader(2, 3);
        x.number(0, 90);
        for (int c = 0; c < 4; c++) {
            x.mark(c, 0, 70);
            x.mark(c, 1, c == 2 ? 65 : 50);
        }
        x.strike(1, 1);
        Check.due("three of four", x.again(), 3);
        Check.due("number 1 first", x.reading(1, 2, 0), 2);
        Check.due("number 3 next", x.reading(3, 2, 0), 3);
        Check.due("number 90 last", x.reading(0, 2, 0), 2);
        Check.due("not the one who agrees", x.reading(2, 2, 0), NONE);
        ExamHalls y = readTwice();
        y.mark(0, 0, 0);
        y.mark(0, 1, 99);
        Check.due("nobody may", y.again(), 0);
    }

    private static void apart() {
        ExamHalls x = readTwice();
        Check.due("apart(-1)", x.apart(-1), BAD);
        Check.due("apart(100)", x.apart(100), BAD);
        Check.due("apart(99)", x.apart(99), 10);
        Check.due("apart(0)", x.apart(0), 99);
        x.mark(0, 0, 50);
        x.mark(0, 1, 51);
        Check.due("one apart", x.score(0, 0), NONE);
        Check.due("apart(1)", x.apart(1), 0);
        Check.due("not apart", x.score(0, 0), 101);
        x.mark(0, 0, 49);
        Check.due("two apart", x.score(0, 0), NONE);
        x.reader(1, 2);
        Check.due("apart(2)", x.apart(2), 1);
        Check.due("no third", x.again(), 0);
        x.apart(1);
        Check.due("a third", x.again(), 1);
    }

    private static void readings() {
        ExamHalls x = readTwice();
        Check.due("nobody", x.reading(1, 0, 0), NONE);
        Check.due("reading -1", x.reading(0, -1, 0), NONE);
        Check.due("reading 2", x.reading(0, 2, 0), NONE);
        Check.due("reading 3", x.reading(0, 3, 1), NONE);
        Check.due("what -1", x.reading(0, 0, -1), NONE);
        Check.due("what 2", x.reading(0, 0, 2), NONE);
        Check.due("no mark yet", x.reading(0, 0, 1), BAD);
        x.mark(0, 1, 0);
        Check.due("a mark of 0", x.reading(0, 1, 1), 0);
        Check.due("still none", x.reading(0, 0, 1), BAD);
        Check.due("reader", x.reading(0, 1, 0), 1);
    }

    private static void marks() {
        ExamHalls x = readTwice();
        x.reader(1, 2);
        Check.due("nobody", x.mark(1, 0, 5), NONE);
        Check.due("no reader", x.mark(0, 3, 5), NONE);
        Check.due("reader -1", x.mark(0, -1, 5), NONE);
        Check.due("nobody, badly", x.mark(1, 0, 100), NONE);
        Check.due("no reader, badly", x.mark(0, 3, 100), NONE);
        Check.due("mark -1", x.mark(0, 0, -1), BAD);
        Check.due("mark 100", x.mark(0, 0, 100), BAD);
        Check.due("badly, and no reading", x.mark(0, 2, 100), BAD);
        Check.due("no reading", x.mark(0, 2, 50), STATE);
        Check.due("no marks yet", x.count(7), 0);
        Check.due("a mark", x.mark(0, 0, 99), 0);
        Check.due("it again", x.mark(0, 0, 0), 1);
        Check.due("it is this one now", x.reading(0, 0, 1), 0);
        Check.due("0 counts as there", x.mark(0, 0, 7), 1);
        Check.due("one mark", x.count(7), 1);
    }

    private static void loads() {
        ExamHalls x = readTwice();
        Check.due("load -1", x.load(-1), NONE);
        Check.due("load of 2", x.load(2), NONE);
        Check.due("load of 0", x.load(0), 1);
        x.reader(1, 2);
        Check.due("load of a new one", x.load(2), 0);
        x.mark(0, 0, 1);
        Check.due("a mark is no load", x.load(0), 1);
    }

    private static void shifts() {
        ExamHalls x = readTwice();
        Check.due("shift -1", x.shift(-1), NO_SHIFT);
        Check.due("shift of 2", x.shift(2), NO_SHIFT);
        Check.due("without any", x.shift(0), 0);
        x.mark(0, 0, 30);
        Check.due("without another's", x.shift(0), 0);
        Check.due("without its own", x.shift(1), 0);
        x.mark(0, 1, 36);
        Check.due("less than the other", x.shift(0), 6);
        Check.due("more than the other", x.shift(1), -6);
        x.candidate(0);
        x.number(1, 1);
        Check.write(x, 1, "b");
        x.share();
        x.mark(1, 0, 50);
        x.mark(1, 1, 90);
        x.strike(1, 1);
        Check.due("over all, struck and apart ones, too", x.shift(0), 23);
        x.reader(1, 3);
        x.again();
        x.mark(1, 2, 2);
        Check.due("a third's marks, too", x.shift(0), -1);
        Check.due("of the third", x.shift(2), (48 + 88) / 2);
    }

    private static void shiftsAreCutDownwards() {
        ExamHalls x = readThrice(10, 12, 11);
        Check.due("3 by 2", x.shift(0), 1);
        Check.due("-3 by 2", x.shift(1), -2);
        Check.due("0 by 2", x.shift(2), 0);
        x.mark(0, 2, 12);
        Check.due("4 by 2", x.shift(0), 2);
        Check.due("-2 by 2", x.shift(1), -1);
        x.mark(0, 1, 11);
        Check.due("-1 and 1 by 2", x.shift(1), 0);
        x.mark(0, 0, 10);
        x.mark(0, 2, 11);
        Check.due("-1 by 2, cut", x.shift(1), -1);
        Check.due("2 by 2", x.shift(0), 1);
    }

    private static void scoresOfTwo() {
        ExamHalls x = Check.hallsOf(0);
        Check.due("nobody", x.score(1, 0), NONE);
        Check.due("without readings", x.score(0, 0), NONE);
        x = written(1);
        x.reader(1, 0);
        x.share();
        x.mark(0, 0, 40);
        Check.due("with one reading", x.score(0, 0), NONE);
        x.reader(1, 1);
        x.share();
        Check.due("a mark lacks", x.score(0, 0), NONE);
        x.mark(0, 1, 50);
        Check.due("both together", x.score(0, 0), 90);
        Check.due("way -1", x.score(0, -1), NONE);
        Check.due("way 2", x.score(0, 2), NONE);
        x.mark(0, 1, 51);
        Check.due("apart", x.score(0, 0), NONE);
        Check.due("apart, scaled", x.score(0, 1), NONE);
        x.mark(0, 1, 29);
        Check.due("apart, turned", x.score(0, 0), NONE);
        x.mark(0, 0, 0);
        x.mark(0, 1, 0);
        Check.due("a score of 0", x.score(0, 0), 0);
    }

    private static void scoresOfThree() {
        ExamHalls x = readThrice(40, 55, 50);
        Check.due("the nearest two", x.score(0, 0), 105);
        x.mark(0, 2, 44);
        Check.due("the nearest are 0 and 2", x.score(0, 0), 84);
        x.mark(0, 1, 42);
        x.mark(0, 2, 60);
        Check.due("the nearest are 0 and 1", x.score(0, 0), 82);
        x.mark(0, 1, 80);
        Check.due("of like differences the greater", x.score(0, 0), 140);
        x.mark(0, 0, 80);
        x.mark(0, 1, 60);
        x.mark(0, 2, 40);
        Check.due("of like differences the greater, turned", x.score(0, 0), 140);
        x.mark(0, 1, 40);
        x.mark(0, 2, 60);
        Check.due("of like differences the greater, between", x.score(0, 0), 140);
        x.mark(0, 0, 99);
        x.mark(0, 1, 0);
        x.mark(0, 2, 50);
        Check.due("apart or not", x.score(0, 0), 149);
        x = readTwice();
        x.reader(1, 2);
        x.mark(0, 0, 0);
        x.mark(0, 1, 99);
        x.again();
        Check.due("the third lacks", x.score(0, 0), NONE);
        x.mark(0, 1, 0);
        Check.due("the third lacks, though not apart", x.score(0, 0), NONE);
        x.mark(0, 2, 0);
        Check.due("all are told", x.score(0, 0), 0);
    }

    private static void scaledScores() {
        ExamHalls x = readTwice();
        x.mark(0, 0, 40);
        x.mark(0, 1, 48);
        Check.due("each by its reader's shift", x.score(0, 1), 48 + 40);
        x.candidate(0);
        x.number(1, 1);
        Check.write(x, 1, "b");
        x.share();
        x.mark(1, 0, 30);
        x.mark(1, 1, 60);
        Check.due("shifts of all", x.score(0, 1), 40 + 19 + 48 - 19);
        Check.due("not so the other way", x.score(0, 0), 88);
        Check.due("apart by marks as given", x.score(1, 1), NONE);
        x = readThrice(50, 70, 66);
        Check.due("the nearest by marks as given", x.score(0, 1), 70 - 12 + 66 - 6);
        x = readThrice(40, 60, 80);
        Check.due("of like differences the greater as given", x.score(0, 1), 60 + 0 + 80 - 30);
    }

    private static void scaledScoresAreKeptWithin() {
        ExamHalls x = readTwice();
        x.mark(0, 0, 2);
        x.mark(0, 1, 3);
        x.candidate(0);
        x.number(1, 1);
        Check.write(x, 1, "b");
        x.share();
        x.mark(1, 0, 0);
        x.mark(1, 1, 99);
        Check.due("shift up", x.shift(0), 50);
        Check.due("not below 0", x.score(0, 1), 52 + 0);
        x.mark(0, 0, 95);
        x.mark(0, 1, 96);
        Check.due("not above 99", x.score(0, 1), 99 + 46);
    }
}
