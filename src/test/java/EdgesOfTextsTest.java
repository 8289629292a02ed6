/** Terms 1, promises 1 to 6: each sentence that names an edge of candidates, the tape and essays. */
public final class EdgesOfTextsTest {
    private static final int NONE = -1, BAD = -2, FULL = -4;
    private static final int LEAST = Integer.MIN_VALUE, MOST = Integer.MAX_VALUE;
    private static final String TWELVE = Check.repeat("a", " ", 12);

    public static void main(String[] args) {
        nobodyAtFirst();
        twentyFourCandidates();
        provinces();
        tapeHolds250();
        feedsOneToEight();
        feedsTheLowestBytes();
        noByteButALetterFirst();
        whatFollowsALetter();
        whatFollowsEightLetters();
        whatFollowsABlankOrALine();
        whatFollowsTwelveWords();
        whatFollowsEightLegs();
        whereTheTapeEndsTooEarly();
        theLastPlaceOfTheTape();
        theMostOfAnEssay();
        theLeastOfAnEssay();
        tapeIsEmptyThen();
        inPlaceOfOne();
        keepsWhatItHad();
        tapeStays();
        legsOfWhat();
        wordsOfPlaces();
        wordsAsNumbers();
        the512thCall();
        Check.end();
    }

    private static String sign(int b) {
        return String.valueOf((char) b);
    }

    private static boolean isLetter(int b) {
        return b >= 97 && b <= 122;
    }

    /** A tape with this many bytes on it. */
    private static ExamHalls fed(int bytes) {
        ExamHalls x = Check.hallsOf(0);
        Check.feed(x, Check.repeat("a", "", bytes));
        Check.due("so many bytes", x.count(5), bytes);
        return x;
    }

    // "Nobody; THE FORM has one LEG."
    private static void nobodyAtFirst() {
        ExamHalls x = new ExamHalls();
        for (int what = 0; what <= 8; what++) {
            Check.due("new: count(" + what + ")", x.count(what), 0);
        }
        Check.due("new: essay of 0", x.essay(0), NONE);
        Check.due("new: legs of 0", x.legs(0, 0), NONE);
        Check.due("new: word of 0", x.word(0, 0, 0), 0);
        Check.due("new: judge 0", x.judge(0), NONE);
        Check.due("new: passes 0", x.passes(0), NONE);
        Check.due("new: load of 0", x.load(0), NONE);
        Check.due("new: shift of 0", x.shift(0), -1000);
        Check.due("new: cell of 0", x.cell(0, 0), -5);
        Check.due("new: number of 0", x.number(0, 0), -5);
        Check.due("new: share", x.share(), 0);
        Check.due("new: again", x.again(), 0);
        Check.due("new: near", x.near(), 0);
        Check.due("new: opens all", x.opens(255), 0);
        Check.due("new: fewest", x.fewest(), 0);
        Check.due("new: form", x.form(1), 1);
    }

    // "CANDIDATES are numbered from 0 on, 24 at most"; "A CANDIDATE more: its number here. NONE; FULL."
    private static void twentyFourCandidates() {
        ExamHalls x = new ExamHalls();
        for (int c = 0; c < 24; c++) {
            Check.due("one ahead of the next is not there", x.strike(c, 0), NONE);
            Check.due("candidate " + c, x.candidate(0), c);
            Check.due("it is there", x.strike(c, 0), 0);
        }
        Check.due("the 25th", x.candidate(0), FULL);
        Check.due("the 25th, of another province", x.candidate(3), FULL);
        Check.due("the 25th, of no province", x.candidate(-1), NONE);
        Check.due("24 of them", x.count(0), 24);
        Check.due("23 is the last", x.strike(23, 0), 0);
        Check.due("24 is none", x.strike(24, 0), NONE);
    }

    // "each of a PROVINCE 0 .. 3"
    private static void provinces() {
        ExamHalls x = new ExamHalls();
        int[] none = {-1, 4, 256, LEAST, MOST};
        for (int province : none) {
            Check.due("candidate(" + province + ")", x.candidate(province), NONE);
        }
        Check.due("none of them is one", x.count(0), 0);
        for (int province = 0; province < 4; province++) {
            Check.due("candidate(" + province + ")", x.candidate(province), province);
            x.number(province, province);
            Check.write(x, province, "a");
        }
        x.reader(0, 0);
        Check.due("not of province 0 itself", x.share(), 3);
        x.reader(3, 1);
        Check.due("nor of province 3 itself", x.share(), 3);
        Check.due("0 is read by that of 3", x.reading(0, 0, 0), 1);
        Check.due("3 is read by that of 0", x.reading(3, 0, 0), 0);
    }

    // "THE TAPE (bytes, 250 at most)"; "how many it has. BAD: n not 1 .. 8; FULL."
    private static void tapeHolds250() {
        for (int n = 1; n <= 8; n++) {
            ExamHalls x = fed(250 - n);
            Check.due(n + " bytes make 250", x.feed(-1L, n), 250);
            x = fed(251 - n);
            Check.due(n + " bytes make 251", x.feed(-1L, n), FULL);
            Check.due("none of them came", x.count(5), 251 - n);
            if (n > 1) {
                Check.due("one less makes 250", x.feed(-1L, n - 1), 250);
            }
            Check.due("not one more", x.feed(-1L, 1), FULL);
            Check.due("nor eight", x.feed(-1L, 8), FULL);
            Check.due("nine are BAD, full or not", x.feed(-1L, 9), BAD);
            Check.due("none is BAD, full or not", x.feed(-1L, 0), BAD);
            Check.due("250 still", x.count(5), 250);
        }
    }

    private static void feedsOneToEight() {
        ExamHalls x = new ExamHalls();
        int[] bad = {0, 9, -1, -8, 16, 257, 264, LEAST, LEAST + 1, MOST};
        for (int n : bad) {
            Check.due("feed of " + n, x.feed('a', n), BAD);
        }
        Check.due("nothing came", x.count(5), 0);
        Check.due("one", x.feed('a', 1), 1);
        Check.due("eight", x.feed('a', 8), 9);
    }

    // "The n lowest bytes of w, the highest first, come behind THE TAPE's"
    private static void feedsTheLowestBytes() {
        long w = Check.asNumber("hgfedcba");
        for (int n = 1; n <= 8; n++) {
            ExamHalls x = Check.hallsOf(0);
            Check.due("feed of " + n, x.feed(w, n), n);
            Check.due("one word", x.essay(0), 1);
            Check.due("the lowest " + n, x.word(0, 0, 0), Check.asNumber("hgfedcba".substring(8 - n)));
        }
        ExamHalls x = Check.hallsOf(0);
        x.feed(Check.asNumber("ab c"), 4);
        x.feed(Check.asNumber("d e"), 3);
        Check.due("three words of two feeds", x.essay(0), 3);
        Check.due("the word between", x.word(0, 0, 1), Check.asNumber("cd"));
        x.feed(0xff61L, 1);
        Check.due("the byte above is not fed", x.essay(0), 1);
        x.feed(0x8061L, 2);
        Check.due("a byte of 128 is fed, not a letter", x.essay(0), -10);
        x.feed(0x61ffL, 2);
        Check.due("a byte of 255 behind a letter", x.essay(0), -11);
        x.feed(0x61L, 8);
        Check.due("leading bytes of 0 are bytes", x.essay(0), -10);
    }

    // "a WORD: 1 .. 8 letters a .. z"; "FAULT: the place of the first byte with which no ESSAY can go on"
    private static void noByteButALetterFirst() {
        for (int b = 0; b < 256; b++) {
            ExamHalls x = Check.hallsOf(0);
            Check.due("byte " + b + " first", Check.write(x, 0, sign(b)), isLetter(b) ? 1 : -10);
            Check.due("byte " + b + " first, a word behind", Check.write(x, 0, sign(b) + "b c"), isLetter(b) ? 2 : -10);
        }
    }

    private static void whatFollowsALetter() {
        for (int b = 0; b < 256; b++) {
            ExamHalls x = Check.hallsOf(0);
            boolean between = b == 32 || b == 10;
            int alone = isLetter(b) ? 1 : between ? -12 : -11;
            Check.due("byte " + b + " second", Check.write(x, 0, "a" + sign(b)), alone);
            int withMore = isLetter(b) ? 1 : between ? 2 : -11;
            Check.due("byte " + b + " second, a letter behind", Check.write(x, 0, "a" + sign(b) + "z"), withMore);
        }
    }

    private static void whatFollowsEightLetters() {
        for (int b = 0; b < 256; b++) {
            ExamHalls x = Check.hallsOf(0);
            boolean between = b == 32 || b == 10;
            Check.due("byte " + b + " behind seven letters", Check.write(x, 0, "abcdefg" + sign(b)),
                    isLetter(b) ? 1 : between ? -18 : -17);
            Check.due("byte " + b + " behind eight letters", Check.write(x, 0, "abcdefgh" + sign(b)),
                    between ? -19 : -18);
        }
        ExamHalls x = Check.hallsOf(0);
        Check.due("eight letters", Check.write(x, 0, "abcdefgh"), 1);
        Check.due("nine letters behind a word", Check.write(x, 0, "a abcdefghi"), -20);
        Check.due("nine letters behind a leg", Check.write(x, 0, "a\nabcdefghi"), -20);
        Check.due("eight and eight", Check.write(x, 0, "abcdefgh abcdefgh\nabcdefgh"), 3);
    }

    // "with one byte 10 between", "with one blank (32) between"
    private static void whatFollowsABlankOrALine() {
        for (int b = 0; b < 256; b++) {
            ExamHalls x = Check.hallsOf(0);
            Check.due("byte " + b + " behind a blank", Check.write(x, 0, "a " + sign(b)), isLetter(b) ? 2 : -12);
            Check.due("byte " + b + " behind a line", Check.write(x, 0, "a\n" + sign(b)), isLetter(b) ? 2 : -12);
        }
    }

    // "WORDS, with one blank (32) between, 12 at most"
    private static void whatFollowsTwelveWords() {
        for (int b = 0; b < 256; b++) {
            ExamHalls x = Check.hallsOf(0);
            int due = isLetter(b) ? 12 : b == 10 ? -34 : -33;
            Check.due("byte " + b + " behind 12 words", Check.write(x, 0, TWELVE + sign(b)), due);
        }
        ExamHalls x = Check.hallsOf(0);
        String eleven = TWELVE.substring(2);
        Check.due("a blank behind 11 words", Check.write(x, 0, eleven + " "), -32);
        Check.due("a 12th word", Check.write(x, 0, eleven + " a"), 12);
        Check.due("a 13th word", Check.write(x, 0, TWELVE + " a"), -33);
        Check.due("a 13th word in leg 1", Check.write(x, 0, "a\n" + TWELVE + " a"), -35);
        Check.due("a 13th word in the last leg",
                Check.write(x, 0, Check.repeat("a", "\n", 7) + "\n" + TWELVE + " a"), -47);
        Check.due("13 words in two legs", Check.write(x, 0, TWELVE + "\na"), 13);
    }

    // "LEGS, with one byte 10 between, 8 at most"
    private static void whatFollowsEightLegs() {
        String eight = Check.repeat("a", "\n", 8);
        for (int b = 0; b < 256; b++) {
            ExamHalls x = Check.hallsOf(0);
            int due = isLetter(b) ? 8 : b == 32 ? -26 : -25;
            Check.due("byte " + b + " behind 8 legs", Check.write(x, 0, eight + sign(b)), due);
        }
        ExamHalls x = Check.hallsOf(0);
        Check.due("a line behind 7 legs", Check.write(x, 0, eight.substring(2) + "\n"), -24);
        Check.due("an 8th leg", Check.write(x, 0, eight), 8);
        Check.due("eight legs they are", x.legs(0, 0), 8);
        Check.due("a 9th leg", Check.write(x, 0, eight + "\na"), -25);
    }

    // "(the size of THE TAPE, if it ends too early)"
    private static void whereTheTapeEndsTooEarly() {
        ExamHalls x = Check.hallsOf(0);
        Check.due("at once", x.essay(0), -10);
        Check.due("behind a blank", Check.write(x, 0, "abc de "), -17);
        Check.due("behind a line", Check.write(x, 0, "abc de\n"), -17);
        Check.due("behind 249 bytes", Check.write(x, 0, longText(248) + " "), -259);
        Check.due("behind 250 bytes", Check.write(x, 0, longText(249) + " "), -260);
        Check.due("behind 250 bytes, a line", Check.write(x, 0, longText(249) + "\n"), -260);
        Check.due("a fault ahead of an early end", Check.write(x, 0, "a  b "), -12);
        Check.due("a fault at the last byte, not an early end", Check.write(x, 0, "a  "), -12);
    }

    /** An essay of so many bytes: 29 words at 250 bytes. */
    private static String longText(int bytes) {
        String leg = Check.repeat("abcdefgh", " ", 12);
        String text = leg + "\n" + leg + "\nabcdefgh abcdefgh abcdefgh ab\nabcdefgh";
        return text.substring(0, bytes);
    }

    private static void theLastPlaceOfTheTape() {
        ExamHalls whole = Check.hallsOf(0);
        Check.due("249 bytes", Check.write(whole, 0, longText(249)), 29);
        Check.due("the last word of 249", whole.word(0, 3, 0), Check.asNumber("abc"));
        Check.due("250 bytes", Check.write(whole, 0, longText(250)), 29);
        Check.due("the last word of 250", whole.word(0, 3, 0), Check.asNumber("abcd"));
        for (int b = 0; b < 256; b++) {
            ExamHalls x = Check.hallsOf(0);
            int due = isLetter(b) ? 29 : b == 32 || b == 10 ? -260 : -259;
            Check.due("byte " + b + " as the 250th", Check.write(x, 0, longText(249) + sign(b)), due);
        }
    }

    private static void theMostOfAnEssay() {
        ExamHalls x = Check.hallsOf(0);
        Check.due("eight legs of twelve words", Check.write(x, 0, Check.repeat(TWELVE, "\n", 8)), 96);
        Check.due("8 legs", x.legs(0, 0), 8);
        Check.due("96 words", x.legs(0, 1), 96);
        for (int leg = 0; leg < 8; leg++) {
            Check.due("12 words in leg " + leg, x.legs(0, 2 + leg), 12);
            Check.due("the first of leg " + leg, x.word(0, leg, 0), 'a');
            Check.due("the 12th of leg " + leg, x.word(0, leg, 11), 'a');
            Check.due("no 13th of leg " + leg, x.word(0, leg, 12), 0);
        }
    }

    private static void theLeastOfAnEssay() {
        ExamHalls x = Check.hallsOf(0);
        Check.due("one letter", Check.write(x, 0, "a"), 1);
        Check.due("one leg", x.legs(0, 0), 1);
        Check.due("one word", x.legs(0, 1), 1);
        Check.due("one word in leg 0", x.legs(0, 2), 1);
        Check.due("no leg 1", x.legs(0, 3), NONE);
        Check.due("the letter", x.word(0, 0, 0), 'a');
    }

    // "THE TAPE, which is empty then (by a FAULT, too)"
    private static void tapeIsEmptyThen() {
        ExamHalls x = fed(8);
        Check.due("an essay", x.essay(0), 1);
        Check.due("empty then", x.count(5), 0);
        Check.due("no essay of nothing", x.essay(0), -10);
        x.feed(Check.asNumber("bad!"), 4);
        Check.due("a fault", x.essay(0), -13);
        Check.due("empty by a fault, too", x.count(5), 0);
        Check.due("the next one starts anew", Check.write(x, 0, "ok"), 1);
        Check.due("and holds nothing of it", x.word(0, 0, 0), Check.asNumber("ok"));
        x = fed(250);
        Check.due("nine letters of 250", x.essay(0), -18);
        Check.due("a full tape is empty then", x.count(5), 0);
        Check.due("room for 250 again", Check.feed(x, longText(250)), 250);
    }

    // "is the ESSAY of a CANDIDATE (in place of one): how many WORDS"
    private static void inPlaceOfOne() {
        ExamHalls x = Check.hallsOf(0, 0);
        Check.write(x, 0, Check.repeat(TWELVE, "\n", 8));
        Check.due("a small one for a great one", Check.write(x, 0, "b\nc d"), 3);
        Check.due("2 legs", x.legs(0, 0), 2);
        Check.due("3 words", x.legs(0, 1), 3);
        Check.due("1 word in leg 0", x.legs(0, 2), 1);
        Check.due("2 words in leg 1", x.legs(0, 3), 2);
        Check.due("no leg 2", x.legs(0, 4), NONE);
        Check.due("no second word in leg 0", x.word(0, 0, 1), 0);
        Check.due("no third word in leg 1", x.word(0, 1, 2), 0);
        Check.due("no word in leg 2", x.word(0, 2, 0), 0);
        Check.due("one essay", x.count(2), 1);
        Check.due("a great one for a small one", Check.write(x, 0, Check.repeat(TWELVE, "\n", 8)), 96);
        Check.due("the last word", x.word(0, 7, 11), 'a');
        Check.due("the other has none still", x.legs(1, 0), NONE);
        Check.due("an essay of its own", Check.write(x, 1, "q"), 1);
        Check.due("the first one's is what it was", x.word(0, 0, 0), 'a');
        Check.due("two essays", x.count(2), 2);
    }

    // "-10 less the FAULT (it keeps what it had)"
    private static void keepsWhatItHad() {
        ExamHalls x = Check.hallsOf(0);
        Check.due("a fault ahead of all", Check.write(x, 0, "a."), -11);
        Check.due("it has none still", x.legs(0, 0), NONE);
        Check.due("no essays", x.count(2), 0);
        Check.write(x, 0, "one two\nthree");
        Check.due("a fault late in a text", Check.write(x, 0, "four\nfive\nsix seven eight "), -36);
        Check.due("2 legs still", x.legs(0, 0), 2);
        Check.due("3 words still", x.legs(0, 1), 3);
        Check.due("one", x.word(0, 0, 0), Check.asNumber("one"));
        Check.due("two", x.word(0, 0, 1), Check.asNumber("two"));
        Check.due("three", x.word(0, 1, 0), Check.asNumber("three"));
        Check.due("a fault of nothing", x.essay(0), -10);
        Check.due("one essay still", x.count(2), 1);
        Check.due("three still", x.word(0, 1, 0), Check.asNumber("three"));
    }

    // "NONE (THE TAPE stays)."
    private static void tapeStays() {
        ExamHalls x = Check.hallsOf(0, 1);
        Check.feed(x, "ab cd");
        int[] nobody = {2, -1, 24, LEAST, MOST};
        for (int c : nobody) {
            Check.due("essay(" + c + ")", x.essay(c), NONE);
            Check.due("5 bytes stay", x.count(5), 5);
        }
        Check.due("no essay by that", x.count(2), 0);
        Check.due("the tape is what it was", x.essay(1), 2);
        Check.due("its last word", x.word(1, 0, 1), Check.asNumber("cd"));
        Check.feed(x, "no!");
        Check.due("a fault for nobody", x.essay(2), NONE);
        Check.due("stays, too", x.count(5), 3);
    }

    // "Of an ESSAY what 0 LEGS, 1 WORDS, 2 and the LEG WORDS of that. NONE: none such, no ESSAY."
    private static void legsOfWhat() {
        ExamHalls x = Check.hallsOf(0, 0);
        for (int legs = 1; legs <= 8; legs++) {
            Check.write(x, 0, Check.repeat("a b", "\n", legs));
            Check.due(legs + " legs", x.legs(0, 0), legs);
            Check.due("words of all", x.legs(0, 1), 2 * legs);
            Check.due("words of the last", x.legs(0, 1 + legs), 2);
            Check.due("none behind the last", x.legs(0, 2 + legs), NONE);
        }
        int[] none = {-1, -2, 10, 11, LEAST, LEAST + 1, LEAST + 2, MOST};
        for (int what : none) {
            Check.due("legs(0, " + what + ")", x.legs(0, what), NONE);
        }
        for (int what = -1; what <= 10; what++) {
            Check.due("without an essay", x.legs(1, what), NONE);
            Check.due("of nobody", x.legs(2, what), NONE);
            Check.due("of -1", x.legs(-1, what), NONE);
        }
    }

    // "A WORD of a LEG ... 0: none such."
    private static void wordsOfPlaces() {
        ExamHalls x = Check.hallsOf(0, 0);
        Check.write(x, 0, "a b c\nd\ne f");
        Check.due("the first of all", x.word(0, 0, 0), 'a');
        Check.due("the last of leg 0", x.word(0, 0, 2), 'c');
        Check.due("the only one of leg 1", x.word(0, 1, 0), 'd');
        Check.due("the last of all", x.word(0, 2, 1), 'f');
        int[][] none = {{0, 3}, {1, 1}, {2, 2}, {3, 0}, {0, -1}, {-1, 0}, {1, -1}, {8, 0}, {7, 11}, {0, 12}, {0, 11},
            {LEAST, 0}, {MOST, 0}, {0, LEAST}, {0, MOST}, {MOST, MOST}, {LEAST, LEAST}};
        for (int[] at : none) {
            Check.due("word(0, " + at[0] + ", " + at[1] + ")", x.word(0, at[0], at[1]), 0);
        }
        Check.due("without an essay", x.word(1, 0, 0), 0);
        int[] nobody = {2, -1, 24, LEAST, MOST};
        for (int c : nobody) {
            Check.due("word of " + c, x.word(c, 0, 0), 0);
        }
    }

    // "its letters as bytes of a number, the first one the highest of them"
    private static void wordsAsNumbers() {
        ExamHalls x = Check.hallsOf(0);
        Check.write(x, 0, "a z az za aaaaaaaa zzzzzzzz abcdefgh");
        Check.due("a", x.word(0, 0, 0), 0x61L);
        Check.due("z", x.word(0, 0, 1), 0x7aL);
        Check.due("az", x.word(0, 0, 2), 0x617aL);
        Check.due("za", x.word(0, 0, 3), 0x7a61L);
        Check.due("aaaaaaaa", x.word(0, 0, 4), 0x6161616161616161L);
        Check.due("zzzzzzzz", x.word(0, 0, 5), 0x7a7a7a7a7a7a7a7aL);
        Check.due("abcdefgh", x.word(0, 0, 6), 0x6162636465666768L);
    }

    // "An object is used for at most 512 calls after it has been made"
    private static void the512thCall() {
        ExamHalls x = new ExamHalls();
        for (int calls = 1; calls <= 510; calls++) {
            int before = (calls - 1) % 8 + 1;
            Check.due("call " + calls, x.form(calls % 8 + 1), before);
        }
        Check.due("call 511", x.candidate(3), 0);
        Check.due("call 512", x.count(0), 1);
    }
}
