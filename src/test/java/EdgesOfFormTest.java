/** Terms 1, promises 7 to 12: each sentence that names an edge of THE FORM, JUDGEMENT and LIKENESS. */
public final class EdgesOfFormTest {
    private static final int NONE = -1, BAD = -2, FULL = -4;
    private static final int LEAST = Integer.MIN_VALUE, MOST = Integer.MAX_VALUE;

    public static void main(String[] args) {
        oneLegAtFirst();
        oneToEightLegs();
        measuresAtFirst();
        measuredLegs();
        leastAndMost();
        leastAboveMost();
        measuresBeyondTheForm();
        sixParallels();
        parallelsOfLegs();
        eightBarredWords();
        barredWordsAreWords();
        lettersAtEveryPlace();
        notAsManyLegs();
        tooFewOrTooMany();
        theFirstLegOfAll();
        everyParallel();
        notAsManyWords();
        notAsManyLetters();
        legsThatThereAreNot();
        barredInEveryLeg();
        barredAtEveryPlace();
        theFirstThatHolds();
        judgeOfNone();
        likenessOfNone();
        likenessFromNoneToTwelve();
        likenessWithinALeg();
        likenessAtTheEnds();
        noThirdCandidate();
        everyOtherIsAThird();
        Check.end();
    }

    /** One candidate with this essay, and a form of so many legs. */
    private static ExamHalls judged(int legs, String text) {
        ExamHalls x = Check.hallsOf(0);
        x.form(legs);
        Check.write(x, 0, text);
        return x;
    }

    private static String words(int n) {
        return Check.repeat("a", " ", n);
    }

    /** Legs of one word, but one with so many. */
    private static String legs(int legs, int which, int words) {
        StringBuilder text = new StringBuilder();
        for (int leg = 0; leg < legs; leg++) {
            text.append(leg == 0 ? "" : "\n").append(leg == which ? words(words) : "a");
        }
        return text.toString();
    }

    // "how many LEGS (1 .. 8; 1 at first)"; "what it was. BAD."
    private static void oneLegAtFirst() {
        Check.due("1 at first", new ExamHalls().form(8), 1);
        Check.due("one leg at first", judged(1, "a").judge(0), 0);
        ExamHalls x = Check.hallsOf(0);
        Check.write(x, 0, "a\na");
        Check.due("not two at first", x.judge(0), 102);
    }

    private static void oneToEightLegs() {
        ExamHalls x = new ExamHalls();
        int was = 1;
        for (int legs = 1; legs <= 8; legs++) {
            Check.due("form(" + legs + ")", x.form(legs), was);
            was = legs;
        }
        int[] bad = {0, 9, -1, 257, LEAST, MOST};
        for (int legs : bad) {
            Check.due("form(" + legs + ")", x.form(legs), BAD);
        }
        Check.due("8 still", x.form(1), 8);
        for (int legs : bad) {
            Check.due("form(" + legs + ")", x.form(legs), BAD);
        }
        Check.due("1 still", x.form(1), 1);
    }

    // "for each LEG the least and the most WORDS (1 .. 12; 1, 12 at first)"
    private static void measuresAtFirst() {
        for (int leg = 0; leg < 8; leg++) {
            Check.due("one word in leg " + leg, judged(8, legs(8, leg, 1)).judge(0), 0);
            Check.due("twelve in leg " + leg, judged(8, legs(8, leg, 12)).judge(0), 0);
        }
    }

    // "The least and the most WORDS of a LEG 0 .. 7 of THE FORM: 0. NONE; BAD: also least above most."
    private static void measuredLegs() {
        ExamHalls x = judged(8, legs(8, 7, 2));
        int[] none = {-1, 8, 256, LEAST, MOST};
        for (int leg : none) {
            Check.due("measure(" + leg + ", 3, 4)", x.measure(leg, 3, 4), NONE);
            Check.due("measure(" + leg + ", 0, 13)", x.measure(leg, 0, 13), NONE);
            Check.due("measure(" + leg + ", 4, 3)", x.measure(leg, 4, 3), NONE);
        }
        Check.due("refused, nothing is measured", x.judge(0), 0);
        for (int leg = 7; leg >= 0; leg--) {
            Check.due("measure(" + leg + ", 3, 4)", x.measure(leg, 3, 4), 0);
            Check.due("leg " + leg + " is measured", x.judge(0), 200 + leg);
        }
    }

    private static void leastAndMost() {
        ExamHalls x = judged(1, words(12));
        int[] bad = {0, 13, -1, 268, LEAST, MOST};
        for (int words : bad) {
            Check.due("measure(0, " + words + ", 12)", x.measure(0, words, 12), BAD);
            Check.due("measure(0, 1, " + words + ")", x.measure(0, 1, words), BAD);
            Check.due("measure(0, " + words + ", " + words + ")", x.measure(0, words, words), BAD);
        }
        Check.due("twelve are well still", x.judge(0), 0);
        Check.write(x, 0, "a");
        Check.due("one is well still", x.judge(0), 0);
        Check.due("measure(0, 1, 1)", x.measure(0, 1, 1), 0);
        Check.due("one of one", x.judge(0), 0);
        Check.due("measure(0, 12, 12)", x.measure(0, 12, 12), 0);
        Check.due("one of twelve", x.judge(0), 200);
        Check.write(x, 0, words(12));
        Check.due("twelve of twelve", x.judge(0), 0);
        Check.due("measure(0, 1, 12)", x.measure(0, 1, 12), 0);
    }

    private static void leastAboveMost() {
        ExamHalls x = judged(1, words(4));
        for (int least = 1; least <= 12; least++) {
            for (int most = 1; most <= 12; most++) {
                Check.due("measure(0, " + least + ", " + most + ")", x.measure(0, least, most), least > most ? BAD : 0);
            }
        }
        x.measure(0, 4, 4);
        Check.due("by one", x.measure(0, 6, 5), BAD);
        Check.due("what was told before", x.judge(0), 0);
    }

    private static void measuresBeyondTheForm() {
        ExamHalls x = judged(1, "a");
        x.measure(1, 2, 2);
        Check.due("a leg that the form has not", x.judge(0), 0);
        x.form(2);
        Check.write(x, 0, "a\na");
        Check.due("and has then", x.judge(0), 201);
        x.form(1);
        x.form(2);
        Check.due("and has again", x.judge(0), 201);
    }

    // "PARALLELS, 6 at most: two LEGS"; "its number. NONE: no LEG 0 .. 7; BAD: one LEG; FULL."
    private static void sixParallels() {
        ExamHalls x = new ExamHalls();
        for (int i = 0; i < 6; i++) {
            Check.due("so many", x.count(3), i);
            Check.due("parallel " + i, x.parallel(0, 1), i);
        }
        Check.due("a 7th that is there already", x.parallel(0, 1), FULL);
        Check.due("a 7th that is new", x.parallel(6, 7), FULL);
        Check.due("a 7th of one leg", x.parallel(7, 7), BAD);
        Check.due("a 7th of no leg", x.parallel(7, 8), NONE);
        Check.due("six", x.count(3), 6);
    }

    private static void parallelsOfLegs() {
        ExamHalls x = new ExamHalls();
        int[] none = {-1, 8, 256, LEAST, MOST};
        for (int leg : none) {
            Check.due("parallel(" + leg + ", 0)", x.parallel(leg, 0), NONE);
            Check.due("parallel(0, " + leg + ")", x.parallel(0, leg), NONE);
            Check.due("parallel(" + leg + ", " + leg + ")", x.parallel(leg, leg), NONE);
        }
        for (int leg = 0; leg < 8; leg++) {
            Check.due("parallel(" + leg + ", " + leg + ")", x.parallel(leg, leg), BAD);
        }
        Check.due("none of them is one", x.count(3), 0);
        Check.due("the first and last leg", x.parallel(0, 7), 0);
        Check.due("turned", x.parallel(7, 0), 1);
    }

    // "BARRED WORDS, 8 at most"; "how many are. BAD: no WORD (some byte is no letter), or BARRED; FULL."
    private static void eightBarredWords() {
        ExamHalls x = new ExamHalls();
        for (int i = 0; i < 8; i++) {
            Check.due("so many", x.count(4), i);
            Check.due("barred " + i, x.bar('a' + i), i + 1);
            Check.due("barred already", x.bar('a' + i), BAD);
        }
        Check.due("a 9th", x.bar('i'), FULL);
        Check.due("a 9th that is the first", x.bar('a'), BAD);
        Check.due("a 9th that is the last", x.bar('h'), BAD);
        Check.due("a 9th that is no word", x.bar('A'), BAD);
        Check.due("a 9th of no letters", x.bar(0), BAD);
        Check.due("eight", x.count(4), 8);
        Check.due("the 9th is not barred", judgeWith(x, "i"), 0);
        Check.due("the 8th is", judgeWith(x, "h"), 400);
        Check.due("the 1st is", judgeWith(x, "a"), 400);
    }

    private static int judgeWith(ExamHalls x, String text) {
        if (x.count(0) == 0) {
            x.candidate(0);
        }
        Check.write(x, 0, text);
        return x.judge(0);
    }

    private static void barredWordsAreWords() {
        ExamHalls x = new ExamHalls();
        Check.due("no letter", x.bar(0), BAD);
        Check.due("all bytes 255", x.bar(-1L), BAD);
        Check.due("least", x.bar(Long.MIN_VALUE), BAD);
        Check.due("most", x.bar(Long.MAX_VALUE), BAD);
        Check.due("a byte of 0 behind", x.bar(0x6100L), BAD);
        Check.due("a byte of 0 between", x.bar(0x610061L), BAD);
        Check.due("a byte of 0 as the second of eight", x.bar(0x6100616161616161L), BAD);
        Check.due("a letter as the first of eight alone", x.bar(0x6100000000000000L), BAD);
        Check.due("a blank between", x.bar(Check.asNumber("a b")), BAD);
        Check.due("a line between", x.bar(Check.asNumber("a\nb")), BAD);
        Check.due("none", x.count(4), 0);
        for (int letters = 1; letters <= 8; letters++) {
            Check.due(letters + " letters", x.bar(Check.asNumber("zyxwvuts".substring(0, letters))), letters);
        }
    }

    private static void lettersAtEveryPlace() {
        for (int place = 0; place < 8; place++) {
            ExamHalls x = new ExamHalls();
            long others = 0x6d6d6d6d6d6d6d6dL & ~(255L << 8 * place);
            for (int b = 0; b < 256; b++) {
                boolean isWord = b >= 97 && b <= 122 || b == 0 && place == 7;
                // Only words at the edges are barred, so that there is room for each.
                if (!isWord || b == 97 || b == 122) {
                    long word = others | (long) b << 8 * place;
                    int due = !isWord ? BAD : x.count(4) + 1;
                    Check.due("byte " + b + " at place " + place, x.bar(word), due);
                }
            }
        }
    }

    // "100 and how many LEGS it has: not as many as THE FORM has"
    private static void notAsManyLegs() {
        for (int has = 1; has <= 8; has++) {
            for (int form = 1; form <= 8; form++) {
                ExamHalls x = judged(form, Check.repeat("a", "\n", has));
                Check.due(has + " legs for " + form, x.judge(0), has == form ? 0 : 100 + has);
            }
        }
    }

    // "200 and the LEG: the first LEG with too few WORDS, or too many"
    private static void tooFewOrTooMany() {
        for (int leg = 0; leg < 8; leg++) {
            ExamHalls x = Check.hallsOf(0);
            x.form(8);
            x.measure(leg, 3, 5);
            for (int words = 1; words <= 12; words++) {
                Check.write(x, 0, legs(8, leg, words));
                Check.due(words + " words in leg " + leg, x.judge(0), words < 3 || words > 5 ? 200 + leg : 0);
            }
        }
        ExamHalls x = judged(1, words(11));
        x.measure(0, 12, 12);
        Check.due("11 of 12", x.judge(0), 200);
        x.measure(0, 1, 11);
        Check.due("11 of 11", x.judge(0), 0);
        Check.write(x, 0, words(12));
        Check.due("12 of 11", x.judge(0), 200);
    }

    private static void theFirstLegOfAll() {
        ExamHalls x = judged(3, "a\na a\na a a");
        x.measure(2, 1, 2);
        Check.due("the last", x.judge(0), 202);
        x.measure(1, 3, 12);
        Check.due("the second ahead of it", x.judge(0), 201);
        x.measure(0, 2, 12);
        Check.due("the first ahead of all", x.judge(0), 200);
    }

    // "300 and the PARALLEL's number: the first of which the LEGS have not as many WORDS ..."
    private static void everyParallel() {
        for (int broken = 0; broken < 6; broken++) {
            ExamHalls x = judged(3, "a\nb\ncc");
            for (int i = 0; i < 6; i++) {
                x.parallel(0, i < broken ? 1 : 2);
            }
            Check.due("parallel " + broken + " and all behind it", x.judge(0), 300 + broken);
        }
        ExamHalls x = judged(8, legs(8, 7, 2));
        x.parallel(7, 0);
        Check.due("of the last leg and the first", x.judge(0), 300);
        x = judged(8, legs(8, 0, 2));
        x.parallel(1, 7);
        x.parallel(7, 0);
        Check.due("turned", x.judge(0), 301);
    }

    private static void notAsManyWords() {
        for (int one = 1; one <= 12; one++) {
            for (int other = 1; other <= 12; other++) {
                ExamHalls x = judged(2, words(one) + "\n" + words(other));
                x.parallel(0, 1);
                Check.due(one + " words against " + other, x.judge(0), one == other ? 0 : 300);
            }
        }
    }

    // "... or a WORD has not as many letters as that at its place in the other"
    private static void notAsManyLetters() {
        for (int one = 1; one <= 8; one++) {
            for (int other = 1; other <= 8; other++) {
                String text = "abcdefgh".substring(8 - one) + "\n" + "zyxwvuts".substring(8 - other);
                ExamHalls x = judged(2, text);
                x.parallel(1, 0);
                Check.due(one + " letters against " + other, x.judge(0), one == other ? 0 : 300);
            }
        }
        for (int place = 0; place < 12; place++) {
            StringBuilder leg = new StringBuilder(words(12));
            leg.insert(2 * place, 'b');
            ExamHalls x = judged(2, words(12) + "\n" + leg);
            x.parallel(0, 1);
            Check.due("a letter more at place " + place, x.judge(0), 300);
        }
        ExamHalls x = judged(2, "ab c\nd ef");
        x.parallel(0, 1);
        Check.due("as many, not at its place", x.judge(0), 300);
    }

    // "(PARALLELS of LEGS that there are not count as kept.)"
    private static void legsThatThereAreNot() {
        for (int legs = 1; legs <= 7; legs++) {
            ExamHalls x = judged(legs, legs(legs, legs - 1, 2));
            x.parallel(legs - 1, legs);
            Check.due("one is the last, one is not there: " + legs, x.judge(0), 0);
            x.parallel(legs, legs - 1);
            Check.due("turned: " + legs, x.judge(0), 0);
            if (legs < 7) {
                x.parallel(legs, legs + 1);
                Check.due("neither is there: " + legs, x.judge(0), 0);
            }
            if (legs > 1) {
                int number = x.parallel(legs - 2, legs - 1);
                Check.due("both are there: " + legs, x.judge(0), 300 + number);
            }
        }
        ExamHalls x = judged(1, "a a");
        x.parallel(0, 1);
        Check.due("not yet there", x.judge(0), 0);
        x.form(2);
        Check.write(x, 0, "a a\na");
        Check.due("there then", x.judge(0), 300);
        Check.write(x, 0, "a a\na\na");
        x.form(3);
        Check.due("an earlier essay's legs", x.judge(0), 300);
        Check.write(x, 0, "a a");
        x.form(1);
        Check.due("not there any more", x.judge(0), 0);
    }

    // "400 and the LEG: the first with a BARRED WORD; else 0"
    private static void barredInEveryLeg() {
        for (int leg = 0; leg < 8; leg++) {
            StringBuilder text = new StringBuilder(legs(8, -1, 0));
            for (int from = leg; from < 8; from++) {
                text.setCharAt(2 * from, 'b');
            }
            ExamHalls x = judged(8, text.toString());
            Check.due("nothing is barred", x.judge(0), 0);
            x.bar('c');
            Check.due("another word is barred", x.judge(0), 0);
            x.bar('b');
            Check.due("leg " + leg + " and all behind it", x.judge(0), 400 + leg);
        }
    }

    private static void barredAtEveryPlace() {
        for (int place = 0; place < 12; place++) {
            StringBuilder leg = new StringBuilder(words(12));
            leg.setCharAt(2 * place, 'b');
            ExamHalls x = judged(1, leg.toString());
            x.bar('b');
            Check.due("at place " + place, x.judge(0), 400);
        }
        ExamHalls x = judged(1, "abcdefgh");
        String[] others = {"a", "h", "abcdefg", "bcdefgh", "bbcdefgh", "abcdefgg"};
        for (String word : others) {
            x.bar(Check.asNumber(word));
            Check.due("not so: " + word, x.judge(0), 0);
        }
        x.bar(Check.asNumber("abcdefgh"));
        Check.due("all eight letters", x.judge(0), 400);
    }

    // "JUDGEMENT of an ESSAY, the first that holds"
    private static void theFirstThatHolds() {
        ExamHalls x = judged(8, legs(7, 0, 2));
        x.measure(0, 1, 1);
        x.measure(7, 2, 2);
        x.parallel(0, 1);
        x.bar('a');
        Check.due("100 ahead of all", x.judge(0), 107);
        Check.write(x, 0, legs(8, 1, 2));
        Check.due("200 of the last leg ahead of 300 and 400", x.judge(0), 207);
        x.measure(7, 1, 2);
        Check.due("300 ahead of 400", x.judge(0), 300);
        Check.write(x, 0, legs(8, 7, 2));
        Check.due("400 then", x.judge(0), 400);
        Check.write(x, 0, Check.repeat("b", "\n", 8));
        Check.due("else 0", x.judge(0), 0);
        x.parallel(6, 7);
        Check.write(x, 0, "a\n" + Check.repeat("b", "\n", 6) + "\nbb");
        Check.due("300 of the last legs ahead of 400 of the first", x.judge(0), 301);
    }

    // "JUDGEMENT. NONE: no ESSAY, too."
    private static void judgeOfNone() {
        ExamHalls x = Check.hallsOf(0, 0);
        Check.write(x, 0, "a");
        Check.due("an essay", x.judge(0), 0);
        Check.due("no essay", x.judge(1), NONE);
        int[] nobody = {2, -1, 24, LEAST, MOST};
        for (int c : nobody) {
            Check.due("judge(" + c + ")", x.judge(c), NONE);
        }
        Check.write(x, 1, "a ");
        Check.due("no essay by a fault", x.judge(1), NONE);
        x.strike(0, 1);
        Check.due("a struck one's", x.judge(0), 0);
    }

    // "LIKENESS. NONE: one has no ESSAY, too; BAD: they are one."
    private static void likenessOfNone() {
        ExamHalls x = Check.hallsOf(0, 0, 0);
        Check.due("neither has one", x.like(0, 1), NONE);
        Check.due("one without an essay, twice", x.like(0, 0), NONE);
        Check.write(x, 0, "a");
        Check.due("the other has none", x.like(0, 1), NONE);
        Check.due("turned", x.like(1, 0), NONE);
        Check.due("they are one", x.like(0, 0), BAD);
        int[] nobody = {3, -1, 24, LEAST, MOST};
        for (int c : nobody) {
            Check.due("like(0, " + c + ")", x.like(0, c), NONE);
            Check.due("like(" + c + ", 0)", x.like(c, 0), NONE);
            Check.due("like(" + c + ", " + c + ")", x.like(c, c), NONE);
        }
        Check.write(x, 1, "a");
        Check.due("both have one", x.like(0, 1), 1);
    }

    // "the most WORDS in a row ... that stand so ... in both"
    private static void likenessFromNoneToTwelve() {
        ExamHalls x = Check.hallsOf(0, 0);
        String twelve = "a b c d e f g h i j k l";
        Check.write(x, 0, twelve);
        for (int words = 1; words <= 12; words++) {
            Check.write(x, 1, twelve.substring(0, 2 * words - 1));
            Check.due("the first " + words, x.like(0, 1), words);
            Check.write(x, 1, twelve.substring(24 - 2 * words));
            Check.due("the last " + words, x.like(1, 0), words);
        }
        Check.write(x, 1, "aa bb");
        Check.due("none", x.like(0, 1), 0);
        Check.write(x, 1, "b d a c");
        Check.due("one", x.like(0, 1), 1);
        Check.write(x, 1, "a c d f g h j");
        Check.due("three, the last of several", x.like(0, 1), 3);
        Check.write(x, 0, "abcdefgh");
        Check.write(x, 1, "abcdefgi bcdefgh abcdefg");
        Check.due("not by seven of eight letters", x.like(0, 1), 0);
    }

    private static void likenessWithinALeg() {
        ExamHalls x = Check.hallsOf(0, 0);
        Check.write(x, 0, "a b\nc d");
        Check.write(x, 1, "a b c d");
        Check.due("not across the first one's legs", x.like(0, 1), 2);
        Check.due("nor the second one's", x.like(1, 0), 2);
        Check.write(x, 1, "a\nb c\nd");
        Check.due("legs cut otherwise", x.like(0, 1), 1);
        Check.write(x, 1, "c d\na b");
        Check.due("in other legs", x.like(0, 1), 2);
    }

    private static void likenessAtTheEnds() {
        ExamHalls x = Check.hallsOf(0, 0);
        String legs = Check.repeat("q", "\n", 7);
        Check.write(x, 0, legs + "\na b c");
        Check.write(x, 1, "a b c\n" + legs.replace('q', 'p'));
        Check.due("the last leg and the first", x.like(0, 1), 3);
        Check.due("turned", x.like(1, 0), 3);
        Check.write(x, 1, "p p p p p p p p p a b c");
        Check.due("the last three of twelve", x.like(0, 1), 3);
        Check.write(x, 1, "b c a b");
        Check.due("two, twice", x.like(0, 1), 2);
    }

    // "and in the ESSAY of no third CANDIDATE (STRUCK ones are some, too)"
    private static void noThirdCandidate() {
        ExamHalls x = Check.hallsOf(0, 0, 0);
        Check.write(x, 0, "a b c");
        Check.write(x, 1, "a b c");
        Check.due("a third without an essay", x.like(0, 1), 3);
        Check.write(x, 2, "a b");
        Check.due("a third that has two of three", x.like(0, 1), 3);
        Check.write(x, 2, "a b\nc");
        Check.due("a third that has it across legs", x.like(0, 1), 3);
        Check.write(x, 2, "a b x b c");
        Check.due("a third that has all but the whole", x.like(0, 1), 3);
        Check.write(x, 2, "x\nx a b c");
        Check.due("a third that has it", x.like(0, 1), 0);
        x.strike(2, 1);
        Check.due("a struck third that has it", x.like(0, 1), 0);
        Check.write(x, 2, "x");
        Check.due("a third that has it no more", x.like(0, 1), 3);
        Check.write(x, 0, "a b c d");
        Check.write(x, 1, "a b c q d");
        Check.write(x, 2, "a b c");
        Check.due("one word that the third has not", x.like(0, 1), 1);
        Check.write(x, 2, "d a b");
        Check.due("three, for the third has two of them", x.like(0, 1), 3);
    }

    private static void everyOtherIsAThird() {
        for (int third = 0; third < 24; third++) {
            ExamHalls x = new ExamHalls();
            for (int c = 0; c < 24; c++) {
                x.candidate(c % 4);
            }
            int a = third == 0 ? 1 : 0;
            int b = third == 23 ? 22 : 23;
            Check.write(x, a, "a b c");
            Check.write(x, b, "a b c");
            Check.due("nobody else has one", x.like(a, b), 3);
            Check.write(x, third, "b c");
            Check.due("candidate " + third + " has a part", x.like(a, b), 3);
            Check.write(x, third, "a b c");
            Check.due("candidate " + third + " has it", x.like(b, a), 0);
        }
    }
}
