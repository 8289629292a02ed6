import java.util.Random;

/** Runs of calls by a fixed seed, each answer held against the model's. */
public final class ModelTest {
    private static final int RUNS = 1500, CALLS = 512;
    private static final String[] WORDS = {"a", "b", "c", "ab", "cd", "abc", "stone", "abcdefgh", "z"};
    private static final int[] WRONG = {-1, -2, -5, Integer.MIN_VALUE, Integer.MAX_VALUE, 256, 1000, 1 << 16};

    private final Random random;
    private final ExamHalls x = new ExamHalls();
    private final Model model = new Model();
    private final int people;
    private final int spread;
    private final int mostLegs;
    /** In a calm run the form is left alone and marks are like one another, so that many pass. */
    private final boolean calm;
    private int calls = 0;

    private ModelTest(long seed) {
        random = new Random(seed);
        people = 2 + random.nextInt(random.nextInt(4) == 0 ? 23 : 8);
        calm = random.nextBoolean();
        spread = calm ? 3 : random.nextBoolean() ? 100 : 12;
        mostLegs = calm ? 1 : 1 + random.nextInt(3);
    }

    public static void main(String[] args) {
        for (int seed = 1; seed <= RUNS; seed++) {
            new ModelTest(seed).run(seed);
        }
        Check.end();
    }

    private void run(int seed) {
        if (calm) {
            prepare("run " + seed + ", prepared: ");
        }
        while (calls < CALLS) {
            int which = random.nextInt(40);
            if (!calm && calls < 3 * people) {
                which = random.nextInt(3);
            } else if (calm && which >= 3 && which <= 18) {
                which = 19 + random.nextInt(15);
            }
            call("run " + seed + ", call " + calls + ": ", which);
        }
    }

    private void prepare(String at) {
        for (int c = 0; c < people; c++) {
            int province = random.nextInt(3) / 2;
            due(at + "candidate", x.candidate(province), model.candidate(province));
            int n = below(100);
            due(at + "number", x.number(c, n), model.number(c, n));
            long w = Check.asNumber("ab cd");
            due(at + "feed", x.feed(w, 5), model.feed(w, 5));
            due(at + "essay", x.essay(c), model.essay(c));
        }
        for (int r = 0; r < 6; r++) {
            int room = random.nextInt(4);
            due(at + "reader", x.reader(2, room), model.reader(2, room));
        }
        for (int province = 0; province < 2; province++) {
            int n = 1 + random.nextInt(3);
            due(at + "quota", x.quota(province, n), model.quota(province, n));
        }
        due(at + "share", x.share(), model.share());
    }

    /** Mostly a number below the bound, now and then one at its edge or far beyond. */
    private int below(int bound) {
        int kind = random.nextInt(60);
        if (kind == 0) {
            return WRONG[random.nextInt(WRONG.length)];
        }
        return kind == 1 ? bound : random.nextInt(bound);
    }

    private int someone() {
        return below(people);
    }

    private void due(String call, long got, long want) {
        calls++;
        Check.due(call, got, want);
    }

    private String text() {
        StringBuilder text = new StringBuilder();
        int legs = random.nextInt(20) == 0 ? 1 + random.nextInt(9) : mostLegs;
        int words = random.nextInt(12) == 0 ? 13 : 3;
        for (int leg = 0; leg < legs; leg++) {
            text.append(leg == 0 ? "" : "\n");
            int count = 1 + random.nextInt(words);
            for (int i = 0; i < count; i++) {
                text.append(i == 0 ? "" : " ").append(WORDS[random.nextInt(WORDS.length)]);
            }
        }
        if (random.nextInt(8) == 0) {
            text.insert(random.nextInt(text.length() + 1), " \na.\u00ff".charAt(random.nextInt(5)));
        }
        return text.toString();
    }

    private void write(String at) {
        String text = text();
        for (int from = 0; from < text.length(); from += 8) {
            String part = text.substring(from, Math.min(text.length(), from + 8));
            long w = Check.asNumber(part);
            due(at + "feed", x.feed(w, part.length()), model.feed(w, part.length()));
        }
        int c = someone();
        due(at + "essay(" + c + ")", x.essay(c), model.essay(c));
        due(at + "words", x.legs(c, 1), model.legs(c, 1));
    }

    private void feedAnything(String at) {
        long w = random.nextInt(3) == 0 ? random.nextLong() : Check.asNumber("a b cd e");
        int n = random.nextInt(11) - 1;
        due(at + "feed(" + w + ", " + n + ")", x.feed(w, n), model.feed(w, n));
    }

    private void giveMarks(String at) {
        int c = someone();
        int base = calm ? 20 * random.nextInt(3) : random.nextInt(101 - spread);
        for (int i = 0; i < 3; i++) {
            int r = random.nextInt(8) == 0 ? below(6) : x.reading(c, i, 0);
            int m = base + below(spread);
            if (r != -1 || random.nextInt(8) == 0) {
                due(at + "mark(" + c + ", " + r + ", " + m + ")", x.mark(c, r, m), model.mark(c, r, m));
            }
        }
    }

    private void askPassing(String at) {
        for (int i = 0; i < 3; i++) {
            int c = someone();
            due(at + "passes(" + c + ")", x.passes(c), model.passes(c));
            due(at + "ifStruck(" + c + ")", x.ifStruck(c), model.ifStruck(c));
        }
    }

    private void call(String at, int which) {
        int c = someone();
        int d = someone();
        switch (which) {
            case 0, 1 -> {
                int province = below(random.nextBoolean() ? 1 : 4);
                if (x.count(0) < people || random.nextInt(30) == 0) {
                    due(at + "candidate(" + province + ")", x.candidate(province), model.candidate(province));
                }
                int n = below(random.nextBoolean() ? 100 : people);
                due(at + "number(" + c + ", " + n + ")", x.number(c, n), model.number(c, n));
            }
            case 2, 3, 4 -> write(at);
            case 5 -> {
                if (random.nextInt(10) == 0) {
                    feedAnything(at);
                } else {
                    due(at + "essay(" + c + ")", x.essay(c), model.essay(c));
                }
            }
            case 6 -> {
                int what = below(11);
                due(at + "legs(" + c + ", " + what + ")", x.legs(c, what), model.legs(c, what));
            }
            case 7, 8 -> {
                int leg = below(3);
                int i = below(4);
                due(at + "word(" + c + ", " + leg + ", " + i + ")", x.word(c, leg, i), model.word(c, leg, i));
            }
            case 9 -> {
                int legs = random.nextInt(4) == 0 ? below(9) : mostLegs;
                due(at + "form(" + legs + ")", x.form(legs), model.form(legs));
            }
            case 10 -> {
                int leg = below(8);
                int least = random.nextInt(4) == 0 ? below(13) : 1;
                int most = random.nextInt(4) == 0 ? below(13) : 12;
                due(at + "measure(" + leg + ", " + least + ", " + most + ")",
                        x.measure(leg, least, most), model.measure(leg, least, most));
            }
            case 11 -> {
                if (random.nextInt(8) == 0) {
                    int a = below(8);
                    int b = below(8);
                    due(at + "parallel(" + a + ", " + b + ")", x.parallel(a, b), model.parallel(a, b));
                }
                due(at + "judge(" + c + ")", x.judge(c), model.judge(c));
            }
            case 12 -> {
                if (random.nextInt(8) == 0) {
                    long w = random.nextInt(4) == 0 ? random.nextLong() >>> 8 * random.nextInt(8)
                            : Check.asNumber(random.nextBoolean() ? WORDS[random.nextInt(WORDS.length)]
                                    : "" + (char) ('`' + random.nextInt(28)));
                    due(at + "bar(" + w + ")", x.bar(w), model.bar(w));
                }
                due(at + "judge(" + c + ")", x.judge(c), model.judge(c));
            }
            case 13, 14 -> due(at + "like(" + c + ", " + d + ")", x.like(c, d), model.like(c, d));
            case 15, 16 -> {
                int hand = below(8);
                int a = below(4);
                int b = below(4);
                due(at + "sees(" + hand + ", " + c + ", " + a + ", " + b + ")",
                        x.sees(hand, c, a, b), model.sees(hand, c, a, b));
            }
            case 17 -> {
                int set = below(256);
                due(at + "opens(" + set + ")", x.opens(set), model.opens(set));
            }
            case 18 -> due(at + "fewest()", x.fewest(), model.fewest());
            case 19 -> {
                int province = below(4);
                int room = below(4);
                due(at + "reader(" + province + ", " + room + ")",
                        x.reader(province, room), model.reader(province, room));
            }
            case 20, 21 -> due(at + "share()", x.share(), model.share());
            case 22 -> due(at + "again()", x.again(), model.again());
            case 23 -> {
                int n = below(random.nextBoolean() ? 100 : 10);
                due(at + "apart(" + n + ")", x.apart(n), model.apart(n));
            }
            case 24 -> {
                int i = below(3);
                int what = below(2);
                due(at + "reading(" + c + ", " + i + ", " + what + ")",
                        x.reading(c, i, what), model.reading(c, i, what));
            }
            case 25, 26, 27 -> giveMarks(at);
            case 28 -> {
                int r = below(6);
                due(at + "load(" + r + ")", x.load(r), model.load(r));
                due(at + "shift(" + r + ")", x.shift(r), model.shift(r));
            }
            case 29, 30 -> {
                int way = below(2);
                due(at + "score(" + c + ", " + way + ")", x.score(c, way), model.score(c, way));
            }
            case 31 -> {
                int province = below(4);
                int n = random.nextInt(4) == 0 ? below(25) : below(4);
                due(at + "quota(" + province + ", " + n + ")", x.quota(province, n), model.quota(province, n));
            }
            case 32 -> {
                int ties = below(3);
                int way = below(2);
                due(at + "rule(" + ties + ", " + way + ")", x.rule(ties, way), model.rule(ties, way));
            }
            case 33, 34 -> askPassing(at);
            case 35 -> {
                int province = below(4);
                due(at + "passed(" + province + ")", x.passed(province), model.passed(province));
            }
            case 36 -> {
                int is = random.nextInt(3) == 0 ? below(2) : 0;
                due(at + "strike(" + c + ", " + is + ")", x.strike(c, is), model.strike(c, is));
            }
            case 37 -> {
                int place = below(random.nextBoolean() ? 36 : 9) - (random.nextInt(9) == 0 ? 1 : 0);
                due(at + "cell(" + c + ", " + place + ")", x.cell(c, place), model.cell(c, place));
                due(at + "near()", x.near(), model.near());
            }
            case 38 -> due(at + "kin(" + c + ", " + d + ")", x.kin(c, d), model.kin(c, d));
            default -> {
                int what = below(9);
                due(at + "count(" + what + ")", x.count(what), model.count(what));
            }
        }
    }
}
