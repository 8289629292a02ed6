/** Promises 13 to 16: numbers, what hands have seen, whom they open, the fewest. */
public final class SealsTest {
    private static final int NONE = -1, BAD = -2, STATE = -3, NOBODY = -5;
    private static final int NAME = 0, SCRIPT = 1, SEAL = 2, NUMBER = 3;

    public static void main(String[] args) {
        numbers();
        seeing();
        opening();
        openingOfSeveral();
        fewest();
        fewestOfSeveral();
        Check.end();
    }

    private static void numbers() {
        ExamHalls x = Check.hallsOf(0, 1);
        Check.due("number of nobody", x.number(2, 1), NOBODY);
        Check.due("number of -1", x.number(-1, 1), NOBODY);
        Check.due("nobody, badly", x.number(2, 100), NOBODY);
        Check.due("number -1", x.number(0, -1), BAD);
        Check.due("number 100", x.number(0, 100), BAD);
        Check.due("number 99", x.number(0, 99), NONE);
        Check.due("number 0", x.number(1, 0), NONE);
        Check.due("another one's", x.number(1, 99), STATE);
        Check.due("its own", x.number(1, 0), 0);
        Check.due("a new one", x.number(0, 5), 99);
        Check.due("the one that is free now", x.number(1, 99), 0);
        Check.due("another one's, turned", x.number(0, 99), STATE);
        Check.due("refusals change nothing", x.number(0, 6), 5);
    }

    private static void seeing() {
        ExamHalls x = Check.hallsOf(0);
        Check.due("hand -1", x.sees(-1, 0, 0, 1), NONE);
        Check.due("hand 8", x.sees(8, 0, 0, 1), NONE);
        Check.due("nobody", x.sees(0, 1, 0, 1), NONE);
        Check.due("part -1", x.sees(0, 0, -1, 1), NONE);
        Check.due("part 4", x.sees(0, 0, 1, 4), NONE);
        Check.due("part 4, turned", x.sees(0, 0, 4, 1), NONE);
        Check.due("part -1, turned", x.sees(0, 0, 1, -1), NONE);
        Check.due("part 4 twice", x.sees(0, 0, 4, 4), NONE);
        Check.due("one part, no hand", x.sees(8, 0, 1, 1), NONE);
        Check.due("one part, nobody", x.sees(0, 1, 1, 1), NONE);
        Check.due("one part", x.sees(0, 0, 1, 1), BAD);
        Check.due("seen", x.sees(0, 0, 0, 3), 1);
        Check.due("seen before", x.sees(0, 0, 0, 3), 0);
        Check.due("seen before, turned", x.sees(0, 0, 3, 0), 0);
        Check.due("another hand", x.sees(7, 0, 3, 0), 1);
        Check.due("another pair", x.sees(0, 0, 3, 2), 1);
    }

    private static void opening() {
        ExamHalls x = Check.hallsOf(0);
        Check.due("set -1", x.opens(-1), BAD);
        Check.due("set 256", x.opens(256), BAD);
        Check.due("set of 1 << 30", x.opens(1 << 30), BAD);
        Check.due("no hand", x.opens(0), 0);
        Check.due("all hands", x.opens(255), 0);
        x.sees(1, 0, NUMBER, SEAL);
        x.sees(2, 0, SCRIPT, NAME);
        Check.due("a gap", x.opens(255), 0);
        x.sees(4, 0, SEAL, SCRIPT);
        Check.due("a way of three", x.opens(0b10110), 1);
        Check.due("with more hands", x.opens(255), 1);
        Check.due("one lacks", x.opens(0b00110), 0);
        Check.due("another lacks", x.opens(0b10010), 0);
        Check.due("the third lacks", x.opens(0b10100), 0);
        x.sees(6, 0, SCRIPT, NUMBER);
        Check.due("a way of two", x.opens(0b1000100), 1);
        Check.due("not that alone", x.opens(0b1000000), 0);
        x.sees(7, 0, NAME, NUMBER);
        Check.due("a way of one", x.opens(0b10000000), 1);
    }

    private static void openingOfSeveral() {
        ExamHalls x = Check.hallsOf(0, 0, 0);
        x.sees(0, 0, NAME, SEAL);
        x.sees(0, 1, SEAL, NUMBER);
        x.sees(0, 2, NAME, SEAL);
        x.sees(0, 2, SEAL, NUMBER);
        Check.due("seen of several is not put together", x.opens(1), 1);
        x.sees(1, 0, SEAL, NUMBER);
        Check.due("two", x.opens(3), 2);
        x.sees(1, 1, NAME, SEAL);
        Check.due("three", x.opens(3), 3);
        Check.due("of one hand", x.opens(1), 1);
        x.strike(2, 1);
        Check.due("a struck one is opened, too", x.opens(1), 1);
    }

    private static void fewest() {
        ExamHalls x = Check.hallsOf(0, 1);
        x.sees(0, 0, NAME, SCRIPT);
        x.sees(1, 0, SCRIPT, SEAL);
        Check.due("nobody is opened", x.fewest(), 0);
        x.sees(2, 0, SEAL, NUMBER);
        Check.due("three hands", x.fewest(), 0b111);
        x.sees(6, 1, NAME, SEAL);
        x.sees(7, 1, SEAL, NUMBER);
        Check.due("two hands are fewer", x.fewest(), 0b11000000);
        x.sees(5, 1, SEAL, NUMBER);
        Check.due("two that are less", x.fewest(), 0b1100000);
        x.sees(7, 0, NUMBER, NAME);
        Check.due("one hand", x.fewest(), 0b10000000);
    }

    private static void fewestOfSeveral() {
        ExamHalls x = Check.hallsOf(0, 1);
        x.sees(3, 0, NAME, NUMBER);
        x.sees(1, 1, NAME, NUMBER);
        Check.due("the least of two", x.fewest(), 0b10);
        x.sees(0, 0, NAME, SEAL);
        x.sees(0, 0, SEAL, NUMBER);
        Check.due("one hand that saw two pairs", x.fewest(), 1);
    }
}
