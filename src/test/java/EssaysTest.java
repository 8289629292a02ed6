/** Promises 1 to 12: candidates, the tape, essays, the form, judgement and likeness. */
public final class EssaysTest {
    private static final int NONE = -1, BAD = -2, FULL = -4;

    public static void main(String[] args) {
        newObject();
        candidates();
        feeding();
        essays();
        faults();
        faultsAtTheLimits();
        legsAndWords();
        forms();
        measures();
        parallels();
        bars();
        judgements();
        judgementsInOrder();
        likeness();
        likenessAndThirds();
        Check.end();
    }

    private static void newObject() {
        ExamHalls x = new ExamHalls();
        for (int what = 0; what <= 8; what++) {
            Check.due("new: count(" + what + ")", x.count(what), 0);
        }
        Check.due("new: form(3)", x.form(3), 1);
        Check.due("new: apart(4)", x.apart(4), 10);
        Check.due("new: quota(3, 4)", x.quota(3, 4), 0);
        Check.due("new: fewest", x.fewest(), 0);
        Check.due("new: near", x.near(), 0);
        Check.due("new: share", x.share(), 0);
        Check.due("new: again", x.again(), 0);
    }

    private static void candidates() {
        ExamHalls x = new ExamHalls();
        Check.due("candidate(-1)", x.candidate(-1), NONE);
        Check.due("candidate(4)", x.candidate(4), NONE);
        for (int c = 0; c < 24; c++) {
            Check.due("candidate " + c, x.candidate(c % 4), c);
        }
        Check.due("a 25th candidate", x.candidate(0), FULL);
        Check.due("a 25th of no province", x.candidate(4), NONE);
        Check.due("24 candidates", x.count(0), 24);
    }

    private static void feeding() {
        ExamHalls x = Check.hallsOf(0);
        Check.due("feed of 0", x.feed(97, 0), BAD);
        Check.due("feed of 9", x.feed(97, 9), BAD);
        Check.due("feed of -1", x.feed(97, -1), BAD);
        Check.due("feed of least", x.feed(97, Integer.MIN_VALUE), BAD);
        Check.due("nothing fed", x.count(5), 0);
        Check.due("three lowest bytes", x.feed(Check.asNumber("zzzzzabc"), 3), 3);
        Check.due("one more", x.feed(Check.asNumber("d"), 1), 4);
        Check.due("essay of abcd", x.essay(0), 1);
        Check.due("word abcd", x.word(0, 0, 0), Check.asNumber("abcd"));
        Check.due("tape is empty after", x.count(5), 0);
        for (int i = 1; i <= 31; i++) {
            Check.due("feed " + i, x.feed(-1L, 8), 8 * i);
        }
        Check.due("8 above 248", x.feed(0, 8), FULL);
        Check.due("3 above 248", x.feed(0, 3), FULL);
        Check.due("9 above 248", x.feed(0, 9), BAD);
        Check.due("248 still", x.count(5), 248);
        Check.due("2 above 248", x.feed(0, 2), 250);
        Check.due("1 above 250", x.feed(0, 1), FULL);
        Check.due("bytes of 255 are no letters", x.essay(0), -10);
        Check.due("empty by a fault", x.count(5), 0);
    }

    private static void essays() {
        ExamHalls x = Check.hallsOf(0, 1);
        Check.feed(x, "one two\nthree");
        Check.due("essay of nobody", x.essay(2), NONE);
        Check.due("essay of -1", x.essay(-1), NONE);
        Check.due("the tape stays", x.count(5), 13);
        Check.due("essay", x.essay(1), 3);
        Check.due("the tape is empty", x.count(5), 0);
        Check.due("one essay", x.count(2), 1);
        Check.due("the other has none", x.legs(0, 0), NONE);
        Check.due("in place of it", Check.write(x, 1, "four"), 1);
        Check.due("legs now", x.legs(1, 0), 1);
        Check.due("words now", x.legs(1, 1), 1);
        Check.due("second word gone", x.word(1, 0, 1), 0);
        Check.due("second leg gone", x.word(1, 1, 0), 0);
        Check.due("one essay still", x.count(2), 1);
        Check.due("fault", Check.write(x, 1, "five "), -15);
        Check.due("it keeps what it had", x.word(1, 0, 0), Check.asNumber("four"));
        Check.due("a fault gives no essay", Check.write(x, 0, "Five"), -10);
        Check.due("still none", x.judge(0), NONE);
    }

    private static void faults() {
        ExamHalls x = Check.hallsOf(0);
        Check.due("empty tape", x.essay(0), -10);
        Check.due("blank first", Check.write(x, 0, " a"), -10);
        Check.due("line first", Check.write(x, 0, "\na"), -10);
        Check.due("two blanks", Check.write(x, 0, "ab  c"), -13);
        Check.due("two lines", Check.write(x, 0, "ab\n\nc"), -13);
        Check.due("blank, line", Check.write(x, 0, "ab \nc"), -13);
        Check.due("line, blank", Check.write(x, 0, "ab\n c"), -13);
        Check.due("ends with a blank", Check.write(x, 0, "ab "), -13);
        Check.due("ends with a line", Check.write(x, 0, "ab\n"), -13);
        Check.due("a capital", Check.write(x, 0, "abC"), -12);
        Check.due("a digit", Check.write(x, 0, "ab1"), -12);
        Check.due("before a", Check.write(x, 0, "a`"), -11);
        Check.due("behind z", Check.write(x, 0, "z{"), -11);
        Check.due("a byte of 0", Check.write(x, 0, "a\0"), -11);
        Check.due("a high byte", Check.write(x, 0, "a\u00e1"), -11);
        Check.due("a carriage return", Check.write(x, 0, "a\r\nb"), -11);
        Check.due("a tab", Check.write(x, 0, "a\tb"), -11);
        Check.due("nine letters", Check.write(x, 0, "abcdefghi"), -18);
        Check.due("eight letters", Check.write(x, 0, "abcdefgh"), 1);
        Check.due("a and z", Check.write(x, 0, "a z"), 2);
    }

    private static void faultsAtTheLimits() {
        ExamHalls x = Check.hallsOf(0);
        String leg = Check.repeat("a", " ", 12);
        Check.due("twelve words", Check.write(x, 0, leg), 12);
        Check.due("thirteen words", Check.write(x, 0, leg + " a"), -33);
        Check.due("a blank behind twelve", Check.write(x, 0, leg + " "), -33);
        Check.due("eight legs", Check.write(x, 0, Check.repeat("a", "\n", 8)), 8);
        Check.due("nine legs", Check.write(x, 0, Check.repeat("a", "\n", 9)), -25);
        Check.due("a line behind eight", Check.write(x, 0, Check.repeat("a", "\n", 8) + "\n"), -25);
        Check.due("all the words", Check.write(x, 0, Check.repeat(leg, "\n", 8)), 96);
        Check.due("the last of all", x.word(0, 7, 11), 'a');
        Check.due("words count anew in a leg", Check.write(x, 0, leg + "\n" + leg), 24);
        Check.due("thirteen in the second leg", Check.write(x, 0, leg + "\n" + leg + " a"), -57);
        String full = Check.repeat("abcdefgh", " ", 12) + "\n" + Check.repeat("abcdefgh", " ", 12) + "\n"
                + Check.repeat("abcdefg", " ", 4) + "\nab";
        Check.due("250 bytes", full.length(), 250);
        Check.due("an essay of 250 bytes", Check.write(x, 0, full), 29);
        Check.due("250 bytes, too early an end", Check.write(x, 0, full.substring(0, 249) + " "), -260);
        Check.due("250 bytes, a fault at the last", Check.write(x, 0, full.substring(0, 249) + "."), -259);
    }

    private static void legsAndWords() {
        ExamHalls x = Check.hallsOf(0, 1);
        Check.write(x, 0, "one two\nabcdefgh\nz y x");
        Check.due("legs", x.legs(0, 0), 3);
        Check.due("words", x.legs(0, 1), 6);
        Check.due("words of 0", x.legs(0, 2), 2);
        Check.due("words of 1", x.legs(0, 3), 1);
        Check.due("words of 2", x.legs(0, 4), 3);
        Check.due("words of 3", x.legs(0, 5), NONE);
        Check.due("legs of what -1", x.legs(0, -1), NONE);
        Check.due("legs of what least", x.legs(0, Integer.MIN_VALUE), NONE);
        Check.due("legs of what most", x.legs(0, Integer.MAX_VALUE), NONE);
        Check.due("legs without essay", x.legs(1, 0), NONE);
        Check.due("legs of nobody", x.legs(2, 0), NONE);
        Check.due("word one", x.word(0, 0, 0), ('o' << 16) + ('n' << 8) + 'e');
        Check.due("word two", x.word(0, 0, 1), Check.asNumber("two"));
        Check.due("word of eight", x.word(0, 1, 0), Check.asNumber("abcdefgh"));
        Check.due("word x", x.word(0, 2, 2), 'x');
        Check.due("word behind the last", x.word(0, 0, 2), 0);
        Check.due("word -1", x.word(0, 0, -1), 0);
        Check.due("word of leg 3", x.word(0, 3, 0), 0);
        Check.due("word of leg -1", x.word(0, -1, 0), 0);
        Check.due("word of leg 8", x.word(0, 8, 0), 0);
        Check.due("word 12", x.word(0, 0, 12), 0);
        Check.due("word without essay", x.word(1, 0, 0), 0);
        Check.due("word of nobody", x.word(-1, 0, 0), 0);
    }

    private static void forms() {
        ExamHalls x = new ExamHalls();
        Check.due("form(0)", x.form(0), BAD);
        Check.due("form(9)", x.form(9), BAD);
        Check.due("form(8)", x.form(8), 1);
        Check.due("form(1)", x.form(1), 8);
        Check.due("form(1) again", x.form(1), 1);
    }

    private static void measures() {
        ExamHalls x = Check.hallsOf(0);
        Check.due("measure(-1)", x.measure(-1, 1, 12), NONE);
        Check.due("measure(8)", x.measure(8, 1, 12), NONE);
        Check.due("measure of no leg, badly", x.measure(8, 0, 13), NONE);
        Check.due("least 0", x.measure(0, 0, 12), BAD);
        Check.due("most 13", x.measure(0, 1, 13), BAD);
        Check.due("least 13", x.measure(0, 13, 13), BAD);
        Check.due("most 0", x.measure(0, 1, 0), BAD);
        Check.due("least above most", x.measure(0, 3, 2), BAD);
        Check.write(x, 0, "a");
        Check.due("refusals change nothing", x.judge(0), 0);
        Check.due("measure(7)", x.measure(7, 12, 12), 0);
        Check.due("another leg's measure", x.judge(0), 0);
        Check.due("measure(0, 2, 3)", x.measure(0, 2, 3), 0);
        Check.due("one word", x.judge(0), 200);
        Check.write(x, 0, "a a");
        Check.due("two words", x.judge(0), 0);
        Check.write(x, 0, "a a a");
        Check.due("three words", x.judge(0), 0);
        Check.write(x, 0, "a a a a");
        Check.due("four words", x.judge(0), 200);
        Check.due("measure(0, 1, 1)", x.measure(0, 1, 1), 0);
        Check.due("four for one", x.judge(0), 200);
        Check.due("measure(0, 4, 4)", x.measure(0, 4, 4), 0);
        Check.due("four and four", x.judge(0), 0);
    }

    private static void parallels() {
        ExamHalls x = Check.hallsOf(0);
        Check.due("parallel(-1, 0)", x.parallel(-1, 0), NONE);
        Check.due("parallel(8, 0)", x.parallel(8, 0), NONE);
        Check.due("parallel(0, -1)", x.parallel(0, -1), NONE);
        Check.due("parallel(0, 8)", x.parallel(0, 8), NONE);
        Check.due("parallel(8, 8)", x.parallel(8, 8), NONE);
        Check.due("parallel(3, 3)", x.parallel(3, 3), BAD);
        for (int i = 0; i < 6; i++) {
            Check.due("parallel " + i, x.parallel(7, i % 3), i);
        }
        Check.due("a 7th", x.parallel(0, 1), FULL);
        Check.due("a 7th of one leg", x.parallel(1, 1), BAD);
        Check.due("a 7th of no leg", x.parallel(1, 9), NONE);
        Check.due("six", x.count(3), 6);
    }

    private static void bars() {
        ExamHalls x = Check.hallsOf(0);
        Check.due("bar(0)", x.bar(0), BAD);
        Check.due("bar of a capital", x.bar(Check.asNumber("abC")), BAD);
        Check.due("bar with a 0 between", x.bar(Check.asNumber("a\0b")), BAD);
        Check.due("bar with a 0 behind", x.bar(Check.asNumber("ab\0")), BAD);
        Check.due("bar with a blank", x.bar(Check.asNumber("a b")), BAD);
        Check.due("bar of `", x.bar('`'), BAD);
        Check.due("bar of {", x.bar('{'), BAD);
        Check.due("bar(-1)", x.bar(-1), BAD);
        Check.due("bar of a high first byte", x.bar(Check.asNumber("\u00ffbcdefgh")), BAD);
        Check.due("none is barred", x.count(4), 0);
        Check.due("bar of eight letters", x.bar(Check.asNumber("zbcdefga")), 1);
        Check.due("bar(a)", x.bar('a'), 2);
        Check.due("bar(z)", x.bar('z'), 3);
        Check.due("bar(a) again", x.bar('a'), BAD);
        Check.due("bar(aa)", x.bar(Check.asNumber("aa")), 4);
        for (char c = 'b'; c <= 'e'; c++) {
            Check.due("bar(" + c + ")", x.bar(c), c - 'b' + 5);
        }
        Check.due("a 9th", x.bar('f'), FULL);
        Check.due("a 9th that is barred", x.bar('e'), BAD);
        Check.due("a 9th that is no word", x.bar(0), BAD);
        Check.due("eight", x.count(4), 8);
    }

    private static void judgements() {
        ExamHalls x = Check.hallsOf(0, 1);
        Check.due("judge without essay", x.judge(0), NONE);
        Check.due("judge of nobody", x.judge(2), NONE);
        Check.write(x, 0, "ab c\nde f");
        Check.due("two legs for one", x.judge(0), 102);
        x.form(3);
        Check.due("two legs for three", x.judge(0), 102);
        x.form(2);
        Check.due("two legs", x.judge(0), 0);
        x.parallel(0, 5);
        x.parallel(6, 7);
        Check.due("parallels of legs that are not", x.judge(0), 0);
        x.parallel(1, 0);
        Check.due("a kept parallel", x.judge(0), 0);
        Check.write(x, 1, "ab c\nde f g");
        Check.due("not as many words", x.judge(1), 302);
        Check.write(x, 1, "ab c\nd ef");
        Check.due("not as many letters", x.judge(1), 302);
        Check.write(x, 1, "ab c\ndd f");
        x.bar(Check.asNumber("f"));
        Check.due("barred in leg 1", x.judge(1), 401);
        x.bar(Check.asNumber("ab"));
        Check.due("barred in leg 0, too", x.judge(1), 400);
        Check.write(x, 1, "aba c\nddf g");
        Check.due("part of a word is not barred", x.judge(1), 0);
        Check.write(x, 1, "abcdefgh\nabcdefg");
        Check.due("eight letters against seven", x.judge(1), 302);
        Check.write(x, 1, "abcdefgh\nhgfedcba");
        Check.due("eight against eight", x.judge(1), 0);
    }

    private static void judgementsInOrder() {
        ExamHalls x = Check.hallsOf(0);
        x.form(3);
        x.bar(Check.asNumber("no"));
        x.measure(1, 2, 2);
        x.measure(2, 2, 2);
        x.parallel(1, 2);
        x.parallel(0, 1);
        Check.write(x, 0, "no no no no\nno");
        Check.due("legs ahead of all", x.judge(0), 102);
        Check.write(x, 0, "no\nno\nno a b");
        Check.due("the first leg of a wrong length", x.judge(0), 201);
        Check.write(x, 0, "no\nno a\nno");
        Check.due("the last leg of a wrong length", x.judge(0), 202);
        Check.write(x, 0, "no\nno a\nno bc");
        Check.due("the first parallel", x.judge(0), 300);
        Check.write(x, 0, "no\nno a\nno b");
        Check.due("the second parallel", x.judge(0), 301);
        Check.write(x, 0, "ok a\nno a\nno b");
        Check.due("then barred words", x.judge(0), 401);
        Check.write(x, 0, "ok a\nok a\nok b");
        Check.due("else none", x.judge(0), 0);
    }

    private static void likeness() {
        ExamHalls x = Check.hallsOf(0, 1);
        Check.due("neither has one", x.like(0, 1), NONE);
        Check.due("one alone, without", x.like(0, 0), NONE);
        Check.write(x, 0, "a b c d");
        Check.due("the other has none", x.like(0, 1), NONE);
        Check.due("turned", x.like(1, 0), NONE);
        Check.due("nobody", x.like(0, 2), NONE);
        Check.due("nobody twice", x.like(-1, -1), NONE);
        Check.due("one alone", x.like(0, 0), BAD);
        Check.write(x, 1, "x b c y d");
        Check.due("two in a row", x.like(0, 1), 2);
        Check.due("two in a row, turned", x.like(1, 0), 2);
        Check.write(x, 1, "x b\nc d a");
        Check.due("not across legs", x.like(0, 1), 2);
        Check.write(x, 1, "d c b a");
        Check.due("single words", x.like(0, 1), 1);
        Check.write(x, 1, "ab bc");
        Check.due("nothing", x.like(0, 1), 0);
        Check.write(x, 1, "z z\na b c d e");
        Check.due("all, in another leg", x.like(0, 1), 4);
        Check.write(x, 0, "a a a a a");
        Check.write(x, 1, "a a a b a a");
        Check.due("words that come again", x.like(0, 1), 3);
        String leg = Check.repeat("a", " ", 12);
        Check.write(x, 0, leg + "\n" + leg);
        Check.write(x, 1, leg);
        Check.due("twelve", x.like(0, 1), 12);
    }

    private static void likenessAndThirds() {
        ExamHalls x = Check.hallsOf(0, 1, 2, 3);
        Check.write(x, 0, "a b c d\ne f");
        Check.write(x, 1, "a b c d\ne f");
        Check.due("four", x.like(0, 1), 4);
        Check.write(x, 2, "b c d");
        Check.due("the third has a part", x.like(0, 1), 4);
        Check.due("three of the third are the first's, too", x.like(1, 2), 0);
        Check.write(x, 2, "x a b c d x");
        Check.due("the third has it: the next", x.like(0, 1), 2);
        Check.write(x, 3, "e f");
        Check.due("a fourth has that, too", x.like(0, 1), 0);
        Check.write(x, 2, "a b\nc d");
        Check.due("not across the third's legs", x.like(0, 1), 4);
        Check.write(x, 2, "a b c d");
        x.strike(2, 1);
        Check.due("struck ones are some, too", x.like(0, 1), 0);
        x.strike(0, 1);
        x.strike(1, 1);
        Check.write(x, 2, "q");
        Check.due("struck ones are alike, too", x.like(0, 1), 4);
        Check.write(x, 0, "a b x c d e");
        Check.write(x, 1, "a b y c d e");
        Check.write(x, 2, "c d e");
        Check.due("a shorter one that the third has not", x.like(0, 1), 2);
    }
}
