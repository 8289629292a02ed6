/** Small cases, all of them, each answer held against the model's: what random runs may step over. */
public final class SmallWorldsTest {
    private static final int[] MARKS = {0, 1, 10, 11, 20, 50, 98, 99};

    private ExamHalls x = new ExamHalls();
    private Model model = new Model();
    private String at = "";

    public static void main(String[] args) {
        SmallWorldsTest test = new SmallWorldsTest();
        test.texts();
        test.bytes();
        test.barredWords();
        test.judgements();
        test.likeness();
        test.sealsByHands();
        test.marksOfTwo();
        test.marksOfThree();
        test.ties();
        test.neighbours();
        Check.end();
    }

    private void start(String world) {
        x = new ExamHalls();
        model = new Model();
        at = world + ": ";
    }

    private void due(String call, long got, long want) {
        Check.due(at + call, got, want);
    }

    private void people(int... provinces) {
        for (int c = 0; c < provinces.length; c++) {
            due("candidate", x.candidate(provinces[c]), model.candidate(provinces[c]));
        }
    }

    private void write(int c, String text) {
        for (int from = 0; from < text.length(); from += 8) {
            String part = text.substring(from, Math.min(text.length(), from + 8));
            long w = Check.asNumber(part);
            due("feed", x.feed(w, part.length()), model.feed(w, part.length()));
        }
        due("essay", x.essay(c), model.essay(c));
        due("tape", x.count(5), 0);
    }

    private void readBack(int c) {
        due("legs", x.legs(c, 0), model.legs(c, 0));
        due("words", x.legs(c, 1), model.legs(c, 1));
        for (int leg = 0; leg < x.legs(c, 0); leg++) {
            int words = x.legs(c, leg + 2);
            due("words of leg " + leg, words, model.legs(c, leg + 2));
            due("ahead of the first", x.word(c, leg, -1), 0);
            for (int i = 0; i <= words; i++) {
                due("word " + leg + ", " + i, x.word(c, leg, i), model.word(c, leg, i));
            }
        }
    }

    private static String spelt(int number, int signs, String alphabet) {
        StringBuilder text = new StringBuilder();
        int rest = number;
        for (int i = 0; i < signs; i++) {
            text.append(alphabet.charAt(rest % alphabet.length()));
            rest /= alphabet.length();
        }
        return text.toString();
    }

    /** All texts of up to five signs, at the beginning and where a word, a leg or all legs are full. */
    private void texts() {
        String alphabet = "az \n`";
        String[] heads = {"", "abcdefg", "a b c d e f g h i j k", "a\nb\nc\nd\ne\nf\ng",
            "a\nb\nc\nd\ne\nf\ng\nabcdefgh a b c d e f g h i j"};
        int calls = 512;
        for (String head : heads) {
            int cases = 1;
            for (int signs = 0; signs <= 5; signs++) {
                for (int number = 0; number < cases; number++) {
                    if (calls > 300) {
                        start("texts");
                        people(0);
                        calls = 0;
                    }
                    String text = head + spelt(number, signs, alphabet);
                    at = "'" + text.replace('\n', '/') + "': ";
                    write(0, text);
                    calls += 150;
                    readBack(0);
                }
                cases *= alphabet.length();
            }
        }
    }

    /** Every byte there is, as the first one, behind a letter, a blank and a leg's end. */
    private void bytes() {
        for (int b = 0; b < 256; b++) {
            start("byte " + b);
            people(0);
            for (String head : new String[] {"", "a", "a ", "a\n"}) {
                write(0, head + (char) b);
                write(0, head + (char) b + "a");
                readBack(0);
            }
        }
    }

    /** Every byte there is at each of the eight places of a word, with letters or nothing about it. */
    private void barredWords() {
        for (int b = 0; b < 256; b++) {
            for (int place = 0; place < 8; place++) {
                start("bar " + b + " at " + place);
                long byteAlone = (long) b << 8 * place;
                long amongLetters = 0x7a7a7a7a7a7a7a7aL & ~(255L << 8 * place) | byteAlone;
                long aheadOfLetters = amongLetters & (place == 7 ? -1L : (1L << 8 * place + 8) - 1);
                for (long word : new long[] {byteAlone, amongLetters, aheadOfLetters}) {
                    due("bar", x.bar(word), model.bar(word));
                    due("again", x.bar(word), model.bar(word));
                    due("so many", x.count(4), model.count(4));
                }
            }
        }
    }

    /** Two legs of up to two words, under each form of two legs, with a parallel and a barred word or without. */
    private void judgements() {
        String[] legs = {"a", "ab", "a a", "a ab", "ab a", "b"};
        for (String one : legs) {
            for (String other : legs) {
                for (int ways = 0; ways < 96; ways++) {
                    String text = one + "\n" + other;
                    start("judge '" + text.replace('\n', '/') + "' " + ways);
                    people(0);
                    write(0, text);
                    int formLegs = 1 + ways % 3;
                    due("form", x.form(formLegs), model.form(formLegs));
                    int leg = ways / 3 % 2;
                    int words = 1 + ways / 6 % 2;
                    due("measure", x.measure(leg, words, words), model.measure(leg, words, words));
                    if (ways / 12 % 2 == 1) {
                        due("parallel", x.parallel(0, 2), model.parallel(0, 2));
                        due("parallel", x.parallel(1, 0), model.parallel(1, 0));
                    }
                    if (ways / 24 % 2 == 1) {
                        due("bar", x.bar('a'), model.bar('a'));
                    }
                    if (ways / 48 % 2 == 1) {
                        due("bar", x.bar('b'), model.bar('b'));
                    }
                    due("judge", x.judge(0), model.judge(0));
                }
            }
        }
    }

    /** Three candidates with all texts of up to three words by two letters, in one leg or in two. */
    private void likeness() {
        String[] texts = {"a", "b", "a a", "a b", "b a", "a\nb", "b\na", "a b a", "a a b", "b a b", "a\nb a", "a b\na", "a b\nb a"};
        for (String one : texts) {
            for (String other : texts) {
                for (String third : texts) {
                    start("like '" + one.replace('\n', '/') + "', '" + other.replace('\n', '/') + "' and '"
                            + third.replace('\n', '/') + "'");
                    people(0, 1, 2, 3);
                    write(0, one);
                    write(1, other);
                    due("like", x.like(0, 1), model.like(0, 1));
                    write(3, third);
                    due("like, with a third", x.like(0, 1), model.like(0, 1));
                    due("like, turned", x.like(1, 0), model.like(1, 0));
                    due("strike", x.strike(3, 1), model.strike(3, 1));
                    due("like, with a third struck", x.like(0, 1), model.like(0, 1));
                    due("like, of the second and the third", x.like(1, 3), model.like(1, 3));
                    due("like, without an essay", x.like(2, 3), model.like(2, 3));
                }
            }
        }
    }

    /** All sets of the six pairs, each pair seen by a hand of its own, with all sets of these hands. */
    private void sealsByHands() {
        int[][] pairs = {{0, 1}, {2, 0}, {0, 3}, {1, 2}, {3, 1}, {2, 3}};
        for (int seen = 0; seen < 64; seen++) {
            for (int firstHand = 0; firstHand <= 2; firstHand += 2) {
                start("pairs " + seen + " from hand " + firstHand);
                people(0, 0);
                for (int i = 0; i < 6; i++) {
                    if ((seen >> i & 1) == 1) {
                        int hand = firstHand == 0 ? i : 7 - i;
                        due("sees", x.sees(hand, 1, pairs[i][0], pairs[i][1]), model.sees(hand, 1, pairs[i][0], pairs[i][1]));
                        due("had seen", x.sees(hand, 1, pairs[i][1], pairs[i][0]), model.sees(hand, 1, pairs[i][1], pairs[i][0]));
                    }
                }
                due("fewest", x.fewest(), model.fewest());
                for (int set = 0; set < 256; set++) {
                    due("opens " + set, x.opens(set), model.opens(set));
                }
            }
        }
    }

    private void readers(int count) {
        for (int r = 0; r < count; r++) {
            due("reader", x.reader(1, r), model.reader(1, r));
        }
    }

    private void mark(int c, int reader, int m) {
        due("mark", x.mark(c, reader, m), model.mark(c, reader, m));
    }

    private void marksOfTwo() {
        for (int m0 : MARKS) {
            for (int m1 : MARKS) {
                for (int apart : new int[] {0, 1, 9, 10, 48, 98, 99}) {
                    start("marks " + m0 + ", " + m1 + ", apart " + apart);
                    people(0);
                    write(0, "a");
                    due("number", x.number(0, 9), model.number(0, 9));
                    readers(3);
                    due("share", x.share(), model.share());
                    due("apart", x.apart(apart), model.apart(apart));
                    mark(0, 0, m0);
                    due("score of one mark", x.score(0, 0), model.score(0, 0));
                    mark(0, 1, m1);
                    scores(3);
                    due("again", x.again(), model.again());
                    due("score after it", x.score(0, 0), model.score(0, 0));
                    due("again once more", x.again(), model.again());
                }
            }
        }
    }

    private void scores(int readers) {
        for (int way = 0; way < 2; way++) {
            due("score by way " + way, x.score(0, way), model.score(0, way));
        }
        for (int r = 0; r < readers; r++) {
            due("shift of " + r, x.shift(r), model.shift(r));
        }
    }

    private void marksOfThree() {
        for (int m0 : MARKS) {
            for (int m1 : MARKS) {
                for (int m2 : MARKS) {
                    start("marks " + m0 + ", " + m1 + ", " + m2);
                    people(0, 0);
                    for (int c = 0; c < 2; c++) {
                        write(c, "a");
                        due("number", x.number(c, c), model.number(c, c));
                    }
                    readers(3);
                    due("share", x.share(), model.share());
                    mark(0, 0, 0);
                    mark(0, x.reading(0, 1, 0), 99);
                    due("again", x.again(), model.again());
                    mark(0, 0, m0);
                    mark(0, 1, m1);
                    due("score of two marks", x.score(0, 0), model.score(0, 0));
                    mark(0, 2, m2);
                    scores(3);
                    mark(1, x.reading(1, 0, 0), 7);
                    mark(1, x.reading(1, 1, 0), 50);
                    scores(3);
                }
            }
        }
    }

    /** Four candidates with all marks out of three, by all quotas, rules and ways. */
    private void ties() {
        for (int numbers = 0; numbers < 3; numbers++) {
            for (int marks = 0; marks < 81; marks++) {
                for (int quota = 0; quota <= 5; quota++) {
                    start("marks " + marks + ", numbers " + numbers + ", quota " + quota);
                    tied(numbers, marks);
                    due("quota", x.quota(0, quota), model.quota(0, quota));
                    due("quota", x.quota(3, 1), model.quota(3, 1));
                    for (int rule = 0; rule < 6; rule++) {
                        at = "marks " + marks + ", numbers " + numbers + ", quota " + quota + ", rule " + rule + ": ";
                        due("rule", x.rule(rule % 3, rule / 3), model.rule(rule % 3, rule / 3));
                        whoPasses();
                    }
                }
            }
        }
    }

    private void tied(int numbers, int marks) {
        int[][] orders = {{1, 2, 3, 4, 0}, {40, 30, 20, 10, 50}, {30, 99, 0, 60, 1}};
        people(0, 0, 0, 0, 3);
        readers(2);
        int rest = marks;
        for (int c = 0; c < 5; c++) {
            write(c, "a");
            due("number", x.number(c, orders[numbers][c]), model.number(c, orders[numbers][c]));
        }
        due("share", x.share(), model.share());
        for (int c = 0; c < 5; c++) {
            mark(c, 0, 50 + rest % 3);
            mark(c, 1, 50 + 3 * (rest % 3));
            rest /= 3;
        }
    }

    private void whoPasses() {
        for (int c = 0; c < 5; c++) {
            due("passes " + c, x.passes(c), model.passes(c));
            due("ifStruck " + c, x.ifStruck(c), model.ifStruck(c));
        }
        due("passed", x.passed(0), model.passed(0));
        due("who pass", x.count(8), model.count(8));
    }

    /** Two kinsmen, and two who are none, in every two cells. */
    private void neighbours() {
        for (int a = -1; a < 36; a++) {
            start("cells from " + a);
            people(0, 1, 2);
            due("kin", x.kin(1, 0), model.kin(1, 0));
            due("cell", x.cell(0, a), model.cell(0, a));
            for (int b = -1; b < 36; b++) {
                due("cell " + b, x.cell(1, b), model.cell(1, b));
                due("near, " + b, x.near(), model.near());
            }
            due("out of it", x.cell(1, -1), model.cell(1, -1));
            for (int b = -1; b < 36; b++) {
                due("cell " + b, x.cell(2, b), model.cell(2, b));
                due("no kin, " + b, x.near(), model.near());
            }
        }
    }
}
