/** Terms 1 and 2, promises 13 to 16: each sentence that names an edge of numbers, hands and seals. */
public final class EdgesOfSealsTest {
    private static final int NONE = -1, BAD = -2, STATE = -3, NOBODY = -5;
    private static final int LEAST = Integer.MIN_VALUE, MOST = Integer.MAX_VALUE;
    private static final int NAME = 0, SCRIPT = 1, SEAL = 2, NUMBER = 3;

    public static void main(String[] args) {
        numbersWithin();
        numberOfNobody();
        noTwoAlike();
        numberOfOnesOwn();
        handsWithin();
        partsWithin();
        partsThatAreOne();
        seenOnce();
        seenApart();
        setsWithin();
        setsOfOneHand();
        everyWay();
        aPieceThatLacks();
        handsTogether();
        everybodyOpened();
        nobodyToOpen();
        fewestOfOne();
        fewestOfTwo();
        fewestOfThree();
        fewestAheadOfLeast();
        Check.end();
    }

    // "a NUMBER 0 .. 99"; "what it was (NONE) ... BAD: not 0 .. 99"
    private static void numbersWithin() {
        ExamHalls x = Check.hallsOf(0);
        int[] bad = {-1, 100, -5, 256, LEAST, MOST};
        for (int n : bad) {
            Check.due("number(0, " + n + ")", x.number(0, n), BAD);
        }
        Check.due("it had none", x.number(0, 0), NONE);
        for (int n : bad) {
            Check.due("number(0, " + n + ")", x.number(0, n), BAD);
        }
        int was = 0;
        for (int n = 1; n < 100; n++) {
            Check.due("number(0, " + n + ")", x.number(0, n), was);
            was = n;
        }
        Check.due("it was 99", x.number(0, 0), 99);
    }

    // "-5: there is no such CANDIDATE"
    private static void numberOfNobody() {
        ExamHalls x = new ExamHalls();
        Check.due("nobody at all", x.number(0, 0), NOBODY);
        x.candidate(0);
        x.number(0, 7);
        int[] nobody = {1, -1, 24, LEAST, MOST};
        for (int c : nobody) {
            Check.due("number(" + c + ", 0)", x.number(c, 0), NOBODY);
            Check.due("number(" + c + ", 100)", x.number(c, 100), NOBODY);
            Check.due("number(" + c + ", -1)", x.number(c, -1), NOBODY);
            Check.due("number(" + c + ", 7), another's", x.number(c, 7), NOBODY);
        }
    }

    // "(no two alike)"; "STATE: another one's."
    private static void noTwoAlike() {
        ExamHalls x = new ExamHalls();
        for (int c = 0; c < 24; c++) {
            x.candidate(c % 4);
            Check.due("number of " + c, x.number(c, c == 23 ? 99 : c), NONE);
        }
        for (int c = 0; c < 24; c++) {
            int own = c == 23 ? 99 : c;
            for (int other : new int[] {0, 1, 12, 22, 23}) {
                int n = other == 23 ? 99 : other;
                Check.due("number(" + c + ", " + n + ")", x.number(c, n), n == own ? own : STATE);
            }
        }
        Check.due("refused, it keeps its own", x.number(0, 50), 0);
        Check.due("0 is free then", x.number(23, 0), 99);
        Check.due("and 99", x.number(0, 99), 50);
        x.strike(0, 1);
        Check.due("a struck one's, too", x.number(1, 99), STATE);
    }

    private static void numberOfOnesOwn() {
        ExamHalls x = Check.hallsOf(0, 0);
        x.number(0, 0);
        Check.due("its own again", x.number(0, 0), 0);
        Check.due("and again", x.number(0, 0), 0);
        Check.due("nobody else's", x.number(1, 0), STATE);
        Check.due("the other had none", x.number(1, 1), NONE);
    }

    // "HANDS are 0 .. 7."
    private static void handsWithin() {
        ExamHalls x = Check.hallsOf(0);
        int[] none = {-1, 8, 32, 256, LEAST, MOST};
        for (int hand : none) {
            Check.due("sees(" + hand + ", 0, 0, 3)", x.sees(hand, 0, NAME, NUMBER), NONE);
            Check.due("no hand, and they are one", x.sees(hand, 0, SEAL, SEAL), NONE);
        }
        Check.due("none has seen by that", x.opens(255), 0);
        for (int hand = 0; hand < 8; hand++) {
            Check.due("sees(" + hand + ", 0, 0, 3)", x.sees(hand, 0, NAME, NUMBER), 1);
            Check.due("that hand opens", x.opens(1 << hand), 1);
            Check.due("the next does not", x.opens(1 << (hand + 1) & 255), 0);
        }
        int[] nobody = {1, -1, 24, LEAST, MOST};
        for (int c : nobody) {
            Check.due("sees of " + c, x.sees(0, c, NAME, NUMBER), NONE);
            Check.due("of nobody, and they are one", x.sees(0, c, NAME, NAME), NONE);
        }
    }

    // "Of each CANDIDATE there are four: NAME 0, SCRIPT 1, SEAL 2, NUMBER 3."
    private static void partsWithin() {
        ExamHalls x = Check.hallsOf(0);
        int[] none = {-1, 4, 32, 256, LEAST, MOST};
        for (int part : none) {
            Check.due("sees(0, 0, " + part + ", 0)", x.sees(0, 0, part, 0), NONE);
            Check.due("sees(0, 0, 3, " + part + ")", x.sees(0, 0, 3, part), NONE);
            Check.due("sees(0, 0, " + part + ", " + part + ")", x.sees(0, 0, part, part), NONE);
        }
        for (int a = 0; a < 4; a++) {
            for (int b = a + 1; b < 4; b++) {
                Check.due("seen for the first time: " + a + ", " + b, x.sees(0, 0, a, b), 1);
            }
        }
    }

    // "NONE; BAD: they are one."
    private static void partsThatAreOne() {
        ExamHalls x = Check.hallsOf(0);
        for (int part = 0; part < 4; part++) {
            Check.due("sees(7, 0, " + part + ", " + part + ")", x.sees(7, 0, part, part), BAD);
        }
        Check.due("nothing is opened by that", x.opens(255), 0);
    }

    // "A HAND has SEEN two of the four of a CANDIDATE together: 1, 0 if it had."
    private static void seenOnce() {
        for (int a = 0; a < 4; a++) {
            for (int b = 0; b < 4; b++) {
                if (a != b) {
                    ExamHalls x = Check.hallsOf(0);
                    Check.due("seen: " + a + ", " + b, x.sees(3, 0, a, b), 1);
                    Check.due("it had", x.sees(3, 0, a, b), 0);
                    Check.due("it had, turned", x.sees(3, 0, b, a), 0);
                    for (int other = 0; other < 4; other++) {
                        if (other != a && other != b) {
                            Check.due("another pair with a", x.sees(3, 0, a, other), 1);
                            Check.due("another pair with b", x.sees(3, 0, other, b), 1);
                        }
                    }
                }
            }
        }
    }

    private static void seenApart() {
        ExamHalls x = Check.hallsOf(0, 0);
        for (int hand = 0; hand < 8; hand++) {
            Check.due("hand " + hand, x.sees(hand, 0, SCRIPT, SEAL), 1);
            Check.due("of another candidate", x.sees(hand, 1, SCRIPT, SEAL), 1);
            Check.due("it had", x.sees(hand, 0, SEAL, SCRIPT), 0);
        }
    }

    // "How many CANDIDATES a set of HANDS (bits) OPENS. BAD: a bit of none."
    private static void setsWithin() {
        ExamHalls x = Check.hallsOf(0);
        x.sees(7, 0, NAME, NUMBER);
        Check.due("the empty set", x.opens(0), 0);
        Check.due("all", x.opens(255), 1);
        Check.due("all but hand 7", x.opens(127), 0);
        Check.due("hand 7", x.opens(128), 1);
        for (int bit = 8; bit < 32; bit++) {
            Check.due("bit " + bit, x.opens(1 << bit), BAD);
            Check.due("bit " + bit + " and hand 7", x.opens(1 << bit | 128), BAD);
        }
        Check.due("all bits", x.opens(-1), BAD);
        Check.due("all bits but hands'", x.opens(-256), BAD);
        Check.due("511", x.opens(511), BAD);
        Check.due("most", x.opens(MOST), BAD);
    }

    private static void setsOfOneHand() {
        for (int hand = 0; hand < 8; hand++) {
            ExamHalls x = Check.hallsOf(0);
            x.sees(hand, 0, NUMBER, NAME);
            for (int set = 0; set < 256; set++) {
                Check.due("hand " + hand + ", set " + set, x.opens(set), (set & 1 << hand) != 0 ? 1 : 0);
            }
        }
    }

    // "if one comes from NAME to NUMBER by what some HAND of it has SEEN together"
    private static void everyWay() {
        int[][] ways = {{NAME, NUMBER}, {NAME, SCRIPT, NUMBER}, {NAME, SEAL, NUMBER},
            {NAME, SCRIPT, SEAL, NUMBER}, {NAME, SEAL, SCRIPT, NUMBER}};
        for (int way = 0; way < ways.length; way++) {
            for (int turned = 0; turned < 2; turned++) {
                ExamHalls x = Check.hallsOf(0);
                for (int i = 0; i + 1 < ways[way].length; i++) {
                    Check.due("way " + way + ", not yet", x.opens(1), 0);
                    x.sees(0, 0, ways[way][i + turned], ways[way][i + 1 - turned]);
                }
                Check.due("way " + way, x.opens(1), 1);
                Check.due("of another hand not", x.opens(254), 0);
            }
        }
    }

    private static void aPieceThatLacks() {
        int[][][] lacking = {
            {{NAME, SCRIPT}, {NAME, SEAL}, {SCRIPT, SEAL}},
            {{NUMBER, SCRIPT}, {NUMBER, SEAL}, {SCRIPT, SEAL}},
            {{NAME, SCRIPT}, {SEAL, NUMBER}},
            {{NAME, SEAL}, {SCRIPT, NUMBER}}};
        for (int[][] pairs : lacking) {
            ExamHalls x = Check.hallsOf(0);
            for (int[] pair : pairs) {
                x.sees(5, 0, pair[0], pair[1]);
            }
            Check.due("a piece lacks", x.opens(255), 0);
            Check.due("so nobody is opened", x.fewest(), 0);
        }
    }

    private static void handsTogether() {
        ExamHalls x = Check.hallsOf(0, 0);
        x.sees(0, 0, NAME, SEAL);
        x.sees(7, 0, SEAL, NUMBER);
        x.sees(0, 1, SEAL, NUMBER);
        Check.due("both hands", x.opens(0b10000001), 1);
        Check.due("one hand", x.opens(0b00000001), 0);
        Check.due("the other hand", x.opens(0b10000000), 0);
        Check.due("a hand between does nothing", x.opens(0b10111110), 0);
        Check.due("what is seen of another does not help", x.opens(0b01111111), 0);
    }

    private static void everybodyOpened() {
        ExamHalls x = new ExamHalls();
        for (int c = 0; c < 24; c++) {
            x.candidate(c % 4);
            x.sees(c % 8, c, NAME, NUMBER);
            Check.due("opened so far", x.opens(255), c + 1);
        }
        for (int hand = 0; hand < 8; hand++) {
            Check.due("three by hand " + hand, x.opens(1 << hand), 3);
        }
        x.strike(23, 1);
        Check.due("struck ones, too", x.opens(128), 3);
    }

    // "0: no set OPENS anybody."
    private static void nobodyToOpen() {
        ExamHalls x = new ExamHalls();
        Check.due("without candidates", x.fewest(), 0);
        Check.due("opens of nobody", x.opens(255), 0);
        x.candidate(0);
        Check.due("nothing was seen", x.fewest(), 0);
        for (int hand = 0; hand < 8; hand++) {
            x.sees(hand, 0, NAME, SCRIPT);
        }
        Check.due("no way", x.fewest(), 0);
    }

    // "of all sets that OPEN somebody that with the fewest HANDS, of several the least as bits"
    private static void fewestOfOne() {
        ExamHalls x = Check.hallsOf(0);
        for (int hand = 7; hand >= 0; hand--) {
            x.sees(hand, 0, NAME, NUMBER);
            Check.due("hand " + hand, x.fewest(), 1 << hand);
        }
        x = new ExamHalls();
        for (int c = 0; c < 24; c++) {
            x.candidate(0);
        }
        x.sees(4, 23, NAME, NUMBER);
        Check.due("the last candidate's", x.fewest(), 16);
    }

    private static void fewestOfTwo() {
        for (int one = 0; one < 8; one++) {
            for (int other = 0; other < 8; other++) {
                ExamHalls x = Check.hallsOf(0);
                x.sees(one, 0, NAME, SCRIPT);
                x.sees(other, 0, SCRIPT, NUMBER);
                Check.due("hands " + one + ", " + other, x.fewest(), 1 << one | 1 << other);
            }
        }
        ExamHalls x = Check.hallsOf(0, 0);
        x.sees(0, 0, NAME, SEAL);
        x.sees(7, 0, SEAL, NUMBER);
        Check.due("0 and 7", x.fewest(), 0b10000001);
        x.sees(5, 1, NAME, SEAL);
        x.sees(6, 1, SEAL, NUMBER);
        Check.due("5 and 6 are less as bits", x.fewest(), 0b01100000);
        x.sees(4, 1, NAME, SEAL);
        Check.due("4 and 6 are less still", x.fewest(), 0b01010000);
    }

    private static void fewestOfThree() {
        ExamHalls x = Check.hallsOf(0, 0);
        x.sees(7, 0, NAME, SEAL);
        x.sees(6, 0, SEAL, SCRIPT);
        x.sees(5, 0, SCRIPT, NUMBER);
        Check.due("5, 6 and 7", x.fewest(), 0b11100000);
        x.sees(0, 1, NAME, SCRIPT);
        x.sees(1, 1, SCRIPT, SEAL);
        x.sees(7, 1, SEAL, NUMBER);
        Check.due("0, 1 and 7 are less as bits", x.fewest(), 0b10000011);
        x.sees(2, 1, SEAL, NUMBER);
        Check.due("0, 1 and 2", x.fewest(), 0b111);
    }

    private static void fewestAheadOfLeast() {
        ExamHalls x = Check.hallsOf(0);
        x.sees(0, 0, NAME, SCRIPT);
        x.sees(1, 0, SCRIPT, SEAL);
        x.sees(2, 0, SEAL, NUMBER);
        Check.due("three", x.fewest(), 0b111);
        x.sees(7, 0, SCRIPT, NUMBER);
        Check.due("two that are more as bits", x.fewest(), 0b10000001);
        x.sees(6, 0, NAME, NUMBER);
        Check.due("one that is more than three as bits", x.fewest(), 0b01000000);
    }
}
