import java.util.ArrayList;
import java.util.Arrays;
import java.util.Collections;
import java.util.Comparator;
import java.util.HashSet;
import java.util.List;
import java.util.Set;
import java.util.TreeMap;
import java.util.regex.Pattern;

/** The document once more, by texts, lists and sorting, to hold the program against. */
final class Model {
    private static final int NONE = -1, BAD = -2, STATE = -3, FULL = -4;
    private static final Pattern LEG = Pattern.compile("[a-z]{1,8}( [a-z]{1,8}){0,11}");

    private static final class Person {
        int province, number = NONE, cell = NONE;
        boolean struck;
        List<List<String>> essay;
        final Set<String> seen = new HashSet<>();
        final List<int[]> readings = new ArrayList<>();
    }

    private record Reader(int province, int room) {
    }

    private final List<Person> people = new ArrayList<>();
    private final List<Reader> readers = new ArrayList<>();
    private final StringBuilder tape = new StringBuilder();
    private int legs = 1;
    private final int[] least = new int[8];
    private final int[] most = new int[8];
    private final List<int[]> parallels = new ArrayList<>();
    private final List<String> barred = new ArrayList<>();
    private final Set<Set<Integer>> kin = new HashSet<>();
    private int apart = 10;
    private final int[] quotas = new int[4];
    private int ties = 0;
    private int way = 0;

    Model() {
        Arrays.fill(least, 1);
        Arrays.fill(most, 12);
    }

    private Person person(int c) {
        return c < 0 || c >= people.size() ? null : people.get(c);
    }

    private boolean isReader(int r) {
        return r >= 0 && r < readers.size();
    }

    int candidate(int province) {
        if (province < 0 || province > 3) {
            return NONE;
        }
        if (people.size() == 24) {
            return FULL;
        }
        Person p = new Person();
        p.province = province;
        people.add(p);
        return people.size() - 1;
    }

    int feed(long w, int n) {
        if (n < 1 || n > 8) {
            return BAD;
        }
        if (tape.length() + n > 250) {
            return FULL;
        }
        String all = "";
        for (int i = 0; i < 8; i++) {
            all = (char) (w & 255) + all;
            w >>>= 8;
        }
        tape.append(all.substring(8 - n));
        return tape.length();
    }

    private static boolean isEssay(String text) {
        String[] legs = text.split("\n", -1);
        return legs.length <= 8 && Arrays.stream(legs).allMatch(leg -> LEG.matcher(leg).matches());
    }

    /** A text goes on to an essay where it is one, or is one with a letter more. */
    private static boolean goesOn(String text) {
        return text.isEmpty() || isEssay(text) || isEssay(text + "a");
    }

    int essay(int c) {
        Person p = person(c);
        if (p == null) {
            return NONE;
        }
        String text = tape.toString();
        tape.setLength(0);
        if (!isEssay(text)) {
            int fault = 0;
            while (fault < text.length() && goesOn(text.substring(0, fault + 1))) {
                fault++;
            }
            return -10 - fault;
        }
        p.essay = new ArrayList<>();
        for (String leg : text.split("\n")) {
            p.essay.add(List.of(leg.split(" ")));
        }
        return legs(c, 1);
    }

    int legs(int c, int what) {
        Person p = person(c);
        if (p == null || p.essay == null || what < 0 || what - 2 >= p.essay.size()) {
            return NONE;
        }
        if (what == 0) {
            return p.essay.size();
        }
        return what == 1 ? p.essay.stream().mapToInt(List::size).sum() : p.essay.get(what - 2).size();
    }

    long word(int c, int leg, int i) {
        Person p = person(c);
        if (p == null || p.essay == null || leg < 0 || leg >= p.essay.size() || i < 0 || i >= p.essay.get(leg).size()) {
            return 0;
        }
        return Check.asNumber(p.essay.get(leg).get(i));
    }

    int form(int n) {
        if (n < 1 || n > 8) {
            return BAD;
        }
        int was = legs;
        legs = n;
        return was;
    }

    int measure(int leg, int a, int b) {
        if (leg < 0 || leg > 7) {
            return NONE;
        }
        if (a < 1 || a > 12 || b < 1 || b > 12 || a > b) {
            return BAD;
        }
        least[leg] = a;
        most[leg] = b;
        return 0;
    }

    int parallel(int a, int b) {
        if (a < 0 || a > 7 || b < 0 || b > 7) {
            return NONE;
        }
        if (a == b) {
            return BAD;
        }
        if (parallels.size() == 6) {
            return FULL;
        }
        parallels.add(new int[] {a, b});
        return parallels.size() - 1;
    }

    int bar(long w) {
        StringBuilder word = new StringBuilder();
        for (int shift = 56; shift >= 0; shift -= 8) {
            char sign = (char) (w >>> shift & 255);
            if (sign != 0 || word.length() > 0) {
                word.append(sign);
            }
        }
        if (!word.toString().matches("[a-z]{1,8}") || barred.contains(word.toString())) {
            return BAD;
        }
        if (barred.size() == 8) {
            return FULL;
        }
        barred.add(word.toString());
        return barred.size();
    }

    int judge(int c) {
        Person p = person(c);
        if (p == null || p.essay == null) {
            return NONE;
        }
        if (p.essay.size() != legs) {
            return 100 + p.essay.size();
        }
        for (int leg = 0; leg < legs; leg++) {
            int words = p.essay.get(leg).size();
            if (words < least[leg] || words > most[leg]) {
                return 200 + leg;
            }
        }
        for (int i = 0; i < parallels.size(); i++) {
            int a = parallels.get(i)[0];
            int b = parallels.get(i)[1];
            if (a < legs && b < legs && !letters(p.essay.get(a)).equals(letters(p.essay.get(b)))) {
                return 300 + i;
            }
        }
        for (int leg = 0; leg < legs; leg++) {
            if (!Collections.disjoint(p.essay.get(leg), barred)) {
                return 400 + leg;
            }
        }
        return 0;
    }

    private static List<Integer> letters(List<String> leg) {
        return leg.stream().map(String::length).toList();
    }

    private static Set<String> phrases(Person p) {
        Set<String> phrases = new HashSet<>();
        for (List<String> leg : p.essay) {
            for (int from = 0; from < leg.size(); from++) {
                for (int to = from + 1; to <= leg.size(); to++) {
                    phrases.add(String.join(" ", leg.subList(from, to)));
                }
            }
        }
        return phrases;
    }

    int like(int a, int b) {
        Person one = person(a);
        Person other = person(b);
        if (one == null || other == null || one.essay == null || other.essay == null) {
            return NONE;
        }
        if (a == b) {
            return BAD;
        }
        Set<String> phrases = phrases(one);
        phrases.retainAll(phrases(other));
        for (Person third : people) {
            if (third != one && third != other && third.essay != null) {
                phrases.removeAll(phrases(third));
            }
        }
        return phrases.stream().mapToInt(phrase -> phrase.split(" ").length).max().orElse(0);
    }

    int number(int c, int n) {
        Person p = person(c);
        if (p == null) {
            return -5;
        }
        if (n < 0 || n > 99) {
            return BAD;
        }
        for (Person other : people) {
            if (other != p && other.number == n) {
                return STATE;
            }
        }
        int was = p.number;
        p.number = n;
        return was;
    }

    int sees(int hand, int c, int a, int b) {
        Person p = person(c);
        if (p == null || hand < 0 || hand > 7 || a < 0 || a > 3 || b < 0 || b > 3) {
            return NONE;
        }
        if (a == b) {
            return BAD;
        }
        return p.seen.add(hand + ":" + Math.min(a, b) + Math.max(a, b)) ? 1 : 0;
    }

    private static boolean sees(Person p, int set, int a, int b) {
        for (int hand = 0; hand < 8; hand++) {
            if ((set & 1 << hand) != 0 && p.seen.contains(hand + ":" + Math.min(a, b) + Math.max(a, b))) {
                return true;
            }
        }
        return false;
    }

    private static boolean isOpen(Person p, int set) {
        return sees(p, set, 0, 3)
                || sees(p, set, 0, 1) && sees(p, set, 1, 3)
                || sees(p, set, 0, 2) && sees(p, set, 2, 3)
                || sees(p, set, 0, 1) && sees(p, set, 1, 2) && sees(p, set, 2, 3)
                || sees(p, set, 0, 2) && sees(p, set, 2, 1) && sees(p, set, 1, 3);
    }

    int opens(int set) {
        if (set < 0 || set > 255) {
            return BAD;
        }
        return (int) people.stream().filter(p -> isOpen(p, set)).count();
    }

    int fewest() {
        List<Integer> sets = new ArrayList<>();
        for (int set = 1; set < 256; set++) {
            sets.add(set);
        }
        sets.sort(Comparator.comparingInt((Integer set) -> Integer.bitCount(set)).thenComparingInt(set -> set));
        for (int set : sets) {
            if (opens(set) > 0) {
                return set;
            }
        }
        return 0;
    }

    int reader(int province, int room) {
        if (province < 0 || province > 3 || room < 0 || room > 3) {
            return NONE;
        }
        if (readers.size() == 6) {
            return FULL;
        }
        readers.add(new Reader(province, room));
        return readers.size() - 1;
    }

    int share() {
        int given = 0;
        for (Person p : byNumbers()) {
            while (p.readings.size() < 2 && give(p)) {
                given++;
            }
        }
        return given;
    }

    int again() {
        int given = 0;
        for (Person p : byNumbers()) {
            if (p.readings.size() == 2 && isApart(p) && give(p)) {
                given++;
            }
        }
        return given;
    }

    private boolean isApart(Person p) {
        int a = p.readings.get(0)[1];
        int b = p.readings.get(1)[1];
        return a >= 0 && b >= 0 && Math.abs(a - b) > apart;
    }

    private Iterable<Person> byNumbers() {
        TreeMap<Integer, Person> byNumbers = new TreeMap<>();
        for (Person p : people) {
            if (p.number != NONE && p.essay != null) {
                byNumbers.put(p.number, p);
            }
        }
        return byNumbers.values();
    }

    private boolean give(Person p) {
        List<Integer> may = new ArrayList<>();
        for (int r = 0; r < readers.size(); r++) {
            Reader reader = readers.get(r);
            if (reader.province != p.province
                    && p.readings.stream().noneMatch(had -> readers.get(had[0]).room == reader.room)) {
                may.add(r);
            }
        }
        if (may.isEmpty()) {
            return false;
        }
        may.sort(Comparator.comparingInt(this::load));
        p.readings.add(new int[] {may.get(0), -2});
        return true;
    }

    int apart(int n) {
        if (n < 0 || n > 99) {
            return BAD;
        }
        int was = apart;
        apart = n;
        return was;
    }

    int reading(int c, int i, int what) {
        Person p = person(c);
        if (p == null || i < 0 || i >= p.readings.size() || what < 0 || what > 1) {
            return NONE;
        }
        return p.readings.get(i)[what];
    }

    int mark(int c, int r, int m) {
        Person p = person(c);
        if (p == null || !isReader(r)) {
            return NONE;
        }
        if (m < 0 || m > 99) {
            return BAD;
        }
        for (int[] reading : p.readings) {
            if (reading[0] == r) {
                int was = reading[1];
                reading[1] = m;
                return was < 0 ? 0 : 1;
            }
        }
        return STATE;
    }

    int load(int r) {
        if (!isReader(r)) {
            return NONE;
        }
        return (int) people.stream().flatMap(p -> p.readings.stream()).filter(reading -> reading[0] == r).count();
    }

    int shift(int r) {
        if (!isReader(r)) {
            return -1000;
        }
        List<Integer> differences = new ArrayList<>();
        for (Person p : people) {
            for (int[] own : p.readings) {
                for (int[] other : p.readings) {
                    if (own[0] == r && other[0] != r && own[1] >= 0 && other[1] >= 0) {
                        differences.add(other[1] - own[1]);
                    }
                }
            }
        }
        return (int) Math.floor(differences.stream().mapToInt(d -> d).average().orElse(0));
    }

    private int worth(int[] reading, int way) {
        return way == 0 ? reading[1] : Math.min(99, Math.max(0, reading[1] + shift(reading[0])));
    }

    int score(int c, int way) {
        Person p = person(c);
        if (p == null || way < 0 || way > 1 || p.readings.size() < 2
                || p.readings.stream().anyMatch(reading -> reading[1] < 0)) {
            return NONE;
        }
        int[] a = p.readings.get(0);
        int[] b = p.readings.get(1);
        if (p.readings.size() == 2) {
            return isApart(p) ? NONE : worth(a, way) + worth(b, way);
        }
        int[] third = p.readings.get(2);
        List<int[][]> pairs = new ArrayList<>(List.of(new int[][] {a, b}, new int[][] {a, third}, new int[][] {b, third}));
        pairs.sort(Comparator.<int[][]>comparingInt(pair -> Math.abs(pair[0][1] - pair[1][1]))
                .thenComparingInt(pair -> -pair[0][1] - pair[1][1]));
        return worth(pairs.get(0)[0], way) + worth(pairs.get(0)[1], way);
    }

    int quota(int province, int n) {
        if (province < 0 || province > 3) {
            return NONE;
        }
        if (n < 0 || n > 24) {
            return BAD;
        }
        int was = quotas[province];
        quotas[province] = n;
        return was;
    }

    int rule(int ties, int way) {
        if (ties < 0 || ties > 2 || way < 0 || way > 1) {
            return BAD;
        }
        this.ties = ties;
        this.way = way;
        return 0;
    }

    private Set<Integer> allWhoPass() {
        Set<Integer> all = new HashSet<>();
        for (int province = 0; province < 4; province++) {
            List<Integer> fit = new ArrayList<>();
            for (int c = 0; c < people.size(); c++) {
                Person p = people.get(c);
                if (p.province == province && !p.struck && judge(c) == 0 && score(c, 0) != NONE) {
                    fit.add(c);
                }
            }
            fit.sort(Comparator.comparingInt((Integer c) -> -score(c, way)).thenComparingInt(c -> people.get(c).number));
            int end = Math.min(quotas[province], fit.size());
            if (end > 0 && end < fit.size() && score(fit.get(end - 1), way) == score(fit.get(end), way)) {
                int tie = score(fit.get(end), way);
                if (ties == 0) {
                    while (end < fit.size() && score(fit.get(end), way) == tie) {
                        end++;
                    }
                } else if (ties == 1) {
                    while (end > 0 && score(fit.get(end - 1), way) == tie) {
                        end--;
                    }
                }
            }
            all.addAll(fit.subList(0, end));
        }
        return all;
    }

    int passes(int c) {
        if (person(c) == null) {
            return NONE;
        }
        Set<Integer> all = allWhoPass();
        return !all.contains(c) ? 0 : 1 + (int) all.stream().filter(d -> score(d, way) > score(c, way)).count();
    }

    int passed(int province) {
        if (province < 0 || province > 3) {
            return NONE;
        }
        return (int) allWhoPass().stream().filter(c -> people.get(c).province == province).count();
    }

    int strike(int c, int is) {
        Person p = person(c);
        if (p == null) {
            return NONE;
        }
        if (is < 0 || is > 1) {
            return BAD;
        }
        int was = p.struck ? 1 : 0;
        p.struck = is == 1;
        return was;
    }

    int ifStruck(int c) {
        Person p = person(c);
        if (p == null) {
            return NONE;
        }
        Set<Integer> before = allWhoPass();
        int was = strike(c, 1);
        Set<Integer> then = allWhoPass();
        strike(c, was);
        Set<Integer> changed = new HashSet<>(before);
        changed.addAll(then);
        before.retainAll(then);
        changed.removeAll(before);
        changed.remove(c);
        return changed.size();
    }

    int cell(int c, int place) {
        Person p = person(c);
        if (p == null) {
            return -5;
        }
        if (place < -1 || place > 35) {
            return BAD;
        }
        for (Person other : people) {
            if (other != p && place != -1 && other.cell == place) {
                return STATE;
            }
        }
        int was = p.cell;
        p.cell = place;
        return was;
    }

    int kin(int a, int b) {
        if (person(a) == null || person(b) == null) {
            return NONE;
        }
        if (a == b) {
            return BAD;
        }
        return kin.add(Set.of(a, b)) ? 1 : 0;
    }

    int near() {
        int near = 0;
        for (Set<Integer> pair : kin) {
            int[] cells = pair.stream().mapToInt(c -> people.get(c).cell).sorted().toArray();
            boolean isBelow = cells[1] - cells[0] == 6;
            boolean isBeside = cells[1] - cells[0] == 1 && cells[1] % 6 != 0;
            if (cells[0] >= 0 && (isBelow || isBeside)) {
                near++;
            }
        }
        return near;
    }

    int count(int what) {
        return switch (what) {
            case 0 -> people.size();
            case 1 -> readers.size();
            case 2 -> (int) people.stream().filter(p -> p.essay != null).count();
            case 3 -> parallels.size();
            case 4 -> barred.size();
            case 5 -> tape.length();
            case 6 -> (int) people.stream().filter(p -> p.struck).count();
            case 7 -> (int) people.stream().flatMap(p -> p.readings.stream()).filter(r -> r[1] >= 0).count();
            case 8 -> allWhoPass().size();
            default -> NONE;
        };
    }
}
