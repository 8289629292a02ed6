/** What the tests have in common: telling wrong answers, and feeding texts. */
final class Check {
    private static int wrong = 0;
    private static int checked = 0;

    private Check() {
    }

    static void due(String call, long got, long want) {
        checked++;
        if (got != want) {
            wrong++;
            System.out.println(call + " answered " + got + ", due is " + want);
        }
    }

    static void isTrue(String what, boolean holds) {
        due(what, holds ? 1 : 0, 1);
    }

    static void end() {
        System.out.println(wrong == 0 ? checked + " answers as due" : wrong + " of " + checked + " answers not as due");
        if (wrong != 0 || checked == 0) {
            System.exit(1);
        }
    }

    static long asNumber(String letters) {
        long number = 0;
        for (int i = 0; i < letters.length(); i++) {
            number = number << 8 | letters.charAt(i) & 255;
        }
        return number;
    }

    /** Feeds a text whose signs stand for bytes. */
    static int feed(ExamHalls x, String text) {
        int size = x.count(5);
        for (int from = 0; from < text.length(); from += 8) {
            String part = text.substring(from, Math.min(text.length(), from + 8));
            size = x.feed(asNumber(part), part.length());
        }
        return size;
    }

    /** Feeds a text and takes it as an essay: what essay() answers. */
    static int write(ExamHalls x, int candidate, String text) {
        feed(x, text);
        return x.essay(candidate);
    }

    static ExamHalls hallsOf(int... provinces) {
        ExamHalls x = new ExamHalls();
        for (int province : provinces) {
            x.candidate(province);
        }
        return x;
    }

    static String repeat(String part, String between, int times) {
        StringBuilder text = new StringBuilder();
        for (int i = 0; i < times; i++) {
            text.append(i == 0 ? "" : between).append(part);
        }
        return text.toString();
    }
}
