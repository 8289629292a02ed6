/**
 * Halls of examination: essays and their form, seals between names and numbers, readers and marks,
 * quotas by province, and cells with kinsmen apart.
 */
public final class ExamHalls {
    public static final int NONE = -1, BAD = -2, STATE = -3, FULL = -4;

    // Where NONE is an answer of its own, what there is not is told by another number.
    private static final int NOBODY = -5, NO_SHIFT = -1000, NO_MARK = -2;
    private static final int FAULTS_FROM = -10;

    private static final int MOST_CANDIDATES = 24, MOST_READERS = 6, MOST_READINGS = 3;
    private static final int PROVINCES = 4, ROOMS = 4, NUMBERS = 100, MARKS = 100;
    private static final int CELLS = 36, CELLS_IN_ROW = 6;
    private static final int MOST_BYTES = 250, MOST_FED = 8;
    private static final int MOST_LEGS = 8, MOST_WORDS = 12, MOST_LETTERS = 8;
    private static final int MOST_PARALLELS = 6, MOST_BARRED = 8;
    private static final int BLANK = 32, LEG_END = 10;
    private static final int HANDS = 8, PARTS = 4, NAME_PART = 0, NUMBER_PART = 3;
    private static final int TIES_ALL = 0, TIES_LEAST_NUMBERS = 2;
    private static final int AS_GIVEN = 0, BY_SHIFTS = 1;

    private final Candidate[] candidates = new Candidate[MOST_CANDIDATES];
    private int candidateCount = 0;
    private final Reader[] readers = new Reader[MOST_READERS];
    private int readerCount = 0;
    private final Tape tape = new Tape();
    private final Form form = new Form();
    private int apart = 10;
    private final int[] quotas = new int[PROVINCES];
    private int ties = TIES_ALL;
    private int way = AS_GIVEN;

    // Worked out anew by settleShifts() and settle(); kept here so that no call makes arrays of its own.
    private final int[] shifts = new int[MOST_READERS];
    private final int[] values = new int[MOST_CANDIDATES];
    private final boolean[] passing = new boolean[MOST_CANDIDATES];
    private final boolean[] passedBefore = new boolean[MOST_CANDIDATES];

    public ExamHalls() {
    }

    // ---- candidates, essays

    public int candidate(int province) {
        if (!isWithin(province, 0, PROVINCES - 1)) {
            return NONE;
        }
        if (candidateCount < 0 || candidateCount >= candidates.length) {
            return FULL;
        }
        candidates[candidateCount] = new Candidate(province);
        candidateCount++;
        return candidateCount - 1;
    }

    public int feed(long w, int n) {
        if (!isWithin(n, 1, MOST_FED)) {
            return BAD;
        }
        if (!tape.hasRoomFor(n)) {
            return FULL;
        }
        tape.append(w, n);
        return tape.size;
    }

    public int essay(int candidate) {
        Candidate who = find(candidate);
        if (who == null) {
            return NONE;
        }
        int fault = tape.findFault();
        if (fault != NONE) {
            tape.empty();
            return FAULTS_FROM - fault;
        }
        Essay text = who.text == null ? new Essay() : who.text;
        text.readFrom(tape);
        who.text = text;
        tape.empty();
        return text.wordCount();
    }

    public int legs(int candidate, int what) {
        Essay text = textOf(candidate);
        if (text == null || what < 0) {
            return NONE;
        }
        if (what == 0) {
            return text.legCount;
        }
        if (what == 1) {
            return text.wordCount();
        }
        return text.hasLeg(what - 2) ? text.wordsOf(what - 2) : NONE;
    }

    public long word(int candidate, int leg, int i) {
        Essay text = textOf(candidate);
        return text == null ? 0L : text.wordAt(leg, i);
    }

    public int form(int legs) {
        if (!isWithin(legs, 1, MOST_LEGS)) {
            return BAD;
        }
        int before = form.legCount;
        form.legCount = legs;
        return before;
    }

    public int measure(int leg, int least, int most) {
        if (!isWithin(leg, 0, MOST_LEGS - 1)) {
            return NONE;
        }
        if (!isWithin(least, 1, MOST_WORDS) || !isWithin(most, least, MOST_WORDS)) {
            return BAD;
        }
        form.setMeasure(leg, least, most);
        return 0;
    }

    public int parallel(int a, int b) {
        if (!isWithin(a, 0, MOST_LEGS - 1) || !isWithin(b, 0, MOST_LEGS - 1)) {
            return NONE;
        }
        if (a == b) {
            return BAD;
        }
        if (form.parallelCount >= MOST_PARALLELS) {
            return FULL;
        }
        form.addParallel(a, b);
        return form.parallelCount - 1;
    }

    public int bar(long word) {
        if (!isWord(word) || form.isBarred(word)) {
            return BAD;
        }
        if (form.barredCount >= MOST_BARRED) {
            return FULL;
        }
        form.addBarred(word);
        return form.barredCount;
    }

    public int judge(int candidate) {
        Essay text = textOf(candidate);
        return text == null ? NONE : form.judgementOf(text);
    }

    public int like(int a, int b) {
        Essay one = textOf(a);
        Essay other = textOf(b);
        if (one == null || other == null) {
            return NONE;
        }
        if (a == b) {
            return BAD;
        }
        int most = 0;
        for (int leg = 0; leg < one.legCount; leg++) {
            for (int i = 0; i < one.wordsOf(leg); i++) {
                // A shorter phrase from this place is shared by a third whenever the longest one is.
                int longest = one.longestShared(leg, i, other);
                if (longest > most && !isInThird(a, b, leg, i, longest)) {
                    most = longest;
                }
            }
        }
        return most;
    }

    // ---- seals

    public int number(int candidate, int n) {
        Candidate who = find(candidate);
        if (who == null) {
            return NOBODY;
        }
        if (!isWithin(n, 0, NUMBERS - 1)) {
            return BAD;
        }
        int bearer = bearerOf(n);
        if (bearer != NONE && bearer != candidate) {
            return STATE;
        }
        int before = who.number;
        who.number = n;
        return before;
    }

    public int sees(int hand, int candidate, int a, int b) {
        Candidate who = find(candidate);
        if (who == null || !isWithin(hand, 0, HANDS - 1)) {
            return NONE;
        }
        if (!isWithin(a, 0, PARTS - 1) || !isWithin(b, 0, PARTS - 1)) {
            return NONE;
        }
        if (a == b) {
            return BAD;
        }
        return who.show(hand, a, b) ? 1 : 0;
    }

    public int opens(int set) {
        if (!isWithin(set, 0, (1 << HANDS) - 1)) {
            return BAD;
        }
        return openedBy(set);
    }

    public int fewest() {
        int best = 0;
        // A way from NAME to NUMBER has three steps at most, so no set of more hands is the fewest.
        int fewer = PARTS;
        for (int set = 1; set < 1 << HANDS; set++) {
            if (Integer.bitCount(set) < fewer && openedBy(set) > 0) {
                best = set;
                fewer = Integer.bitCount(set);
            }
        }
        return best;
    }

    // ---- readers

    public int reader(int province, int room) {
        if (!isWithin(province, 0, PROVINCES - 1) || !isWithin(room, 0, ROOMS - 1)) {
            return NONE;
        }
        if (readerCount < 0 || readerCount >= readers.length) {
            return FULL;
        }
        readers[readerCount] = new Reader(province, room);
        readerCount++;
        return readerCount - 1;
    }

    public int share() {
        int given = 0;
        for (int n = 0; n < NUMBERS; n++) {
            Candidate who = find(bearerOf(n));
            if (who != null && who.text != null) {
                for (int i = who.readingCount; i < 2; i++) {
                    given += giveReading(who) ? 1 : 0;
                }
            }
        }
        return given;
    }

    public int again() {
        int given = 0;
        for (int n = 0; n < NUMBERS; n++) {
            Candidate who = find(bearerOf(n));
            if (who != null && who.text != null && who.wantsThird(apart)) {
                given += giveReading(who) ? 1 : 0;
            }
        }
        return given;
    }

    public int apart(int n) {
        if (!isWithin(n, 0, MARKS - 1)) {
            return BAD;
        }
        int before = apart;
        apart = n;
        return before;
    }

    public int reading(int candidate, int i, int what) {
        Candidate who = find(candidate);
        if (who == null || !who.hasReading(i)) {
            return NONE;
        }
        if (what == 0) {
            return who.readerAt(i);
        }
        if (what == 1) {
            return who.isMarked(i) ? who.markAt(i) : NO_MARK;
        }
        return NONE;
    }

    public int mark(int candidate, int reader, int m) {
        Candidate who = find(candidate);
        if (who == null || findReader(reader) == null) {
            return NONE;
        }
        if (!isWithin(m, 0, MARKS - 1)) {
            return BAD;
        }
        int i = who.readingOf(reader);
        if (i == NONE) {
            return STATE;
        }
        boolean wasMarked = who.isMarked(i);
        who.setMark(i, m);
        return wasMarked ? 1 : 0;
    }

    public int load(int reader) {
        Reader found = findReader(reader);
        return found == null ? NONE : found.readings;
    }

    public int shift(int reader) {
        return findReader(reader) == null ? NO_SHIFT : shiftOf(reader);
    }

    public int score(int candidate, int way) {
        Candidate who = find(candidate);
        if (who == null || !isWithin(way, AS_GIVEN, BY_SHIFTS)) {
            return NONE;
        }
        settleShifts();
        return scoreOf(who, way);
    }

    // ---- who passes

    public int quota(int province, int n) {
        if (!isWithin(province, 0, PROVINCES - 1)) {
            return NONE;
        }
        if (!isWithin(n, 0, MOST_CANDIDATES)) {
            return BAD;
        }
        int before = quotas[province];
        quotas[province] = n;
        return before;
    }

    public int rule(int ties, int way) {
        if (!isWithin(ties, TIES_ALL, TIES_LEAST_NUMBERS) || !isWithin(way, AS_GIVEN, BY_SHIFTS)) {
            return BAD;
        }
        this.ties = ties;
        this.way = way;
        return 0;
    }

    public int passes(int candidate) {
        if (find(candidate) == null) {
            return NONE;
        }
        settle(NONE);
        return passing[candidate] ? rankOf(candidate) : 0;
    }

    public int passed(int province) {
        if (!isWithin(province, 0, PROVINCES - 1)) {
            return NONE;
        }
        settle(NONE);
        int passed = 0;
        for (int c = 0; c < candidateCount; c++) {
            Candidate who = find(c);
            if (who != null && who.province == province && passing[c]) {
                passed++;
            }
        }
        return passed;
    }

    public int strike(int candidate, int is) {
        Candidate who = find(candidate);
        if (who == null) {
            return NONE;
        }
        if (!isWithin(is, 0, 1)) {
            return BAD;
        }
        int before = who.struck ? 1 : 0;
        who.struck = is == 1;
        return before;
    }

    public int ifStruck(int candidate) {
        if (find(candidate) == null) {
            return NONE;
        }
        settle(NONE);
        for (int c = 0; c < candidateCount; c++) {
            passedBefore[c] = passing[c];
        }
        settle(candidate);
        int changed = 0;
        for (int c = 0; c < candidateCount; c++) {
            if (c != candidate && passing[c] != passedBefore[c]) {
                changed++;
            }
        }
        return changed;
    }

    // ---- cells

    public int cell(int candidate, int c) {
        Candidate who = find(candidate);
        if (who == null) {
            return NOBODY;
        }
        if (!isWithin(c, NONE, CELLS - 1)) {
            return BAD;
        }
        if (c != NONE && isTaken(c, candidate)) {
            return STATE;
        }
        int before = who.place;
        who.place = c;
        return before;
    }

    public int kin(int a, int b) {
        Candidate one = find(a);
        Candidate other = find(b);
        if (one == null || other == null) {
            return NONE;
        }
        if (a == b) {
            return BAD;
        }
        if (one.isKinOf(b)) {
            return 0;
        }
        one.addKin(b);
        other.addKin(a);
        return 1;
    }

    public int near() {
        int pairs = 0;
        for (int a = 0; a < candidateCount; a++) {
            for (int b = a + 1; b < candidateCount; b++) {
                if (areNearKin(find(a), find(b), b)) {
                    pairs++;
                }
            }
        }
        return pairs;
    }

    public int count(int what) {
        switch (what) {
            case 0:
                return candidateCount;
            case 1:
                return readerCount;
            case 2:
                return essayCount();
            case 3:
                return form.parallelCount;
            case 4:
                return form.barredCount;
            case 5:
                return tape.size;
            case 6:
                return struckCount();
            case 7:
                return markCount();
            case 8:
                settle(NONE);
                return passingCount();
            default:
                return NONE;
        }
    }

    // ---- looking up

    private static boolean isWithin(int n, int least, int most) {
        return n >= least && n <= most;
    }

    private static boolean isLetter(int b) {
        return b >= 'a' && b <= 'z';
    }

    private static boolean isWord(long word) {
        if (word == 0) {
            return false;
        }
        long rest = word;
        for (int i = 0; i < MOST_LETTERS && rest != 0; i++) {
            if (!isLetter((int) (rest & 255))) {
                return false;
            }
            rest = rest >>> 8;
        }
        return true;
    }

    private static int letterCount(long word) {
        int letters = 0;
        while (letters < MOST_LETTERS && word >>> (8 * letters) != 0) {
            letters++;
        }
        return letters;
    }

    private Candidate find(int candidate) {
        return candidate >= 0 && candidate < candidateCount ? candidates[candidate] : null;
    }

    private Reader findReader(int reader) {
        return reader >= 0 && reader < readerCount ? readers[reader] : null;
    }

    private Essay textOf(int candidate) {
        Candidate who = find(candidate);
        return who == null ? null : who.text;
    }

    private int bearerOf(int number) {
        for (int c = 0; c < candidateCount; c++) {
            Candidate who = find(c);
            if (who != null && who.number == number) {
                return c;
            }
        }
        return NONE;
    }

    private boolean isTaken(int place, int byOtherThan) {
        for (int c = 0; c < candidateCount; c++) {
            Candidate who = find(c);
            if (who != null && c != byOtherThan && who.place == place) {
                return true;
            }
        }
        return false;
    }

    // ---- likeness, seals, nearness

    private boolean isInThird(int a, int b, int leg, int i, int words) {
        Essay one = textOf(a);
        if (one == null) {
            return false;
        }
        for (int c = 0; c < candidateCount; c++) {
            Essay third = textOf(c);
            if (c != a && c != b && third != null && one.longestShared(leg, i, third) >= words) {
                return true;
            }
        }
        return false;
    }

    private int openedBy(int set) {
        int opened = 0;
        for (int c = 0; c < candidateCount; c++) {
            Candidate who = find(c);
            if (who != null && who.isOpenedBy(set)) {
                opened++;
            }
        }
        return opened;
    }

    private static boolean areNearKin(Candidate one, Candidate other, int otherNumber) {
        if (one == null || other == null || !one.isKinOf(otherNumber)) {
            return false;
        }
        if (one.place == NONE || other.place == NONE) {
            return false;
        }
        int rows = Math.abs(one.place / CELLS_IN_ROW - other.place / CELLS_IN_ROW);
        int columns = Math.abs(one.place % CELLS_IN_ROW - other.place % CELLS_IN_ROW);
        return rows + columns == 1;
    }

    // ---- readings, shifts, scores

    private boolean mayRead(Reader reader, Candidate who) {
        if (reader.province == who.province) {
            return false;
        }
        for (int i = 0; i < who.readingCount; i++) {
            Reader holder = findReader(who.readerAt(i));
            if (holder != null && holder.room == reader.room) {
                return false;
            }
        }
        return true;
    }

    private int readerFor(Candidate who) {
        int best = NONE;
        int least = 0;
        for (int r = 0; r < readerCount; r++) {
            Reader found = findReader(r);
            if (found != null && mayRead(found, who) && (best == NONE || found.readings < least)) {
                best = r;
                least = found.readings;
            }
        }
        return best;
    }

    private boolean giveReading(Candidate who) {
        int best = readerFor(who);
        Reader found = findReader(best);
        if (found == null || who.readingCount >= MOST_READINGS) {
            return false;
        }
        who.addReading(best);
        found.readings++;
        return true;
    }

    private int shiftOf(int reader) {
        int sum = 0;
        int differences = 0;
        for (int c = 0; c < candidateCount; c++) {
            Candidate who = find(c);
            int own = who == null ? NONE : who.readingOf(reader);
            if (who != null && own != NONE && who.isMarked(own)) {
                for (int i = 0; i < who.readingCount; i++) {
                    if (i != own && who.isMarked(i)) {
                        sum += who.markAt(i) - who.markAt(own);
                        differences++;
                    }
                }
            }
        }
        return differences == 0 ? 0 : Math.floorDiv(sum, differences);
    }

    private int scoreOf(Candidate who, int way) {
        int counting = who.countingReadings(apart);
        if (counting == 0) {
            return NONE;
        }
        int sum = 0;
        for (int i = 0; i < who.readingCount; i++) {
            if ((counting >> i & 1) == 1) {
                sum += way == BY_SHIFTS ? scaledMark(who, i) : who.markAt(i);
            }
        }
        return sum;
    }

    private void settleShifts() {
        for (int r = 0; r < readerCount; r++) {
            shifts[r] = shiftOf(r);
        }
    }

    private int scaledMark(Candidate who, int i) {
        int reader = who.readerAt(i);
        int shift = isWithin(reader, 0, shifts.length - 1) ? shifts[reader] : 0;
        return Math.max(0, Math.min(MARKS - 1, who.markAt(i) + shift));
    }

    // ---- who passes, worked out

    /** Works out values and passing as they stand, or as if one more candidate were struck. */
    private void settle(int asIfStruck) {
        settleShifts();
        for (int c = 0; c < candidateCount; c++) {
            Candidate who = find(c);
            values[c] = who == null || c == asIfStruck || !isFit(who) ? NONE : scoreOf(who, way);
        }
        for (int c = 0; c < candidateCount; c++) {
            passing[c] = values[c] != NONE && hasRoom(c);
        }
    }

    private boolean isFit(Candidate who) {
        return !who.struck && who.text != null && form.judgementOf(who.text) == 0;
    }

    private boolean hasRoom(int candidate) {
        Candidate who = find(candidate);
        if (who == null || !isWithin(who.province, 0, quotas.length - 1)) {
            return false;
        }
        int more = 0;
        int alike = 0;
        int alikeAhead = 0;
        for (int c = 0; c < candidateCount; c++) {
            Candidate other = find(c);
            if (other != null && other.province == who.province && values[c] >= values[candidate]) {
                if (values[c] > values[candidate]) {
                    more++;
                } else {
                    alike++;
                    alikeAhead += other.number < who.number ? 1 : 0;
                }
            }
        }
        int room = quotas[who.province] - more;
        if (room <= 0 || room >= alike) {
            return room > 0;
        }
        return ties == TIES_ALL || ties == TIES_LEAST_NUMBERS && alikeAhead < room;
    }

    private int rankOf(int candidate) {
        int rank = 1;
        for (int c = 0; c < candidateCount; c++) {
            if (passing[c] && values[c] > values[candidate]) {
                rank++;
            }
        }
        return rank;
    }

    // ---- counting

    private int essayCount() {
        int essays = 0;
        for (int c = 0; c < candidateCount; c++) {
            essays += textOf(c) != null ? 1 : 0;
        }
        return essays;
    }

    private int struckCount() {
        int struck = 0;
        for (int c = 0; c < candidateCount; c++) {
            Candidate who = find(c);
            struck += who != null && who.struck ? 1 : 0;
        }
        return struck;
    }

    private int markCount() {
        int marks = 0;
        for (int c = 0; c < candidateCount; c++) {
            Candidate who = find(c);
            marks += who == null ? 0 : who.markedCount();
        }
        return marks;
    }

    private int passingCount() {
        int passed = 0;
        for (int c = 0; c < candidateCount; c++) {
            passed += passing[c] ? 1 : 0;
        }
        return passed;
    }

    /** The bytes that were fed and are no essay yet. */
    private static final class Tape {
        private final byte[] bytes = new byte[MOST_BYTES];
        private int size = 0;

        private boolean hasRoomFor(int n) {
            return n <= bytes.length - size;
        }

        private void append(long w, int n) {
            for (int i = n - 1; i >= 0 && size < bytes.length; i--) {
                bytes[size] = (byte) (w >>> (8 * i));
                size++;
            }
        }

        private void empty() {
            size = 0;
        }

        private int byteAt(int place) {
            return place >= 0 && place < size ? bytes[place] & 255 : NONE;
        }

        /** The first place at which no essay can go on; NONE where the whole tape is one. */
        private int findFault() {
            int letters = 0;
            int wordsEnded = 0;
            int legsEnded = 0;
            for (int place = 0; place < size; place++) {
                int b = byteAt(place);
                if (isLetter(b) && letters < MOST_LETTERS) {
                    letters++;
                } else if (b == BLANK && letters > 0 && wordsEnded < MOST_WORDS - 1) {
                    wordsEnded++;
                    letters = 0;
                } else if (b == LEG_END && letters > 0 && legsEnded < MOST_LEGS - 1) {
                    legsEnded++;
                    wordsEnded = 0;
                    letters = 0;
                } else {
                    return place;
                }
            }
            return letters == 0 ? size : NONE;
        }
    }

    /** Words by legs; each leg has a row of places of its own, so that a new text can take the old one's. */
    private static final class Essay {
        private final long[] words = new long[MOST_LEGS * MOST_WORDS];
        private final int[] lengths = new int[MOST_LEGS];
        private int legCount = 0;

        /** Takes the words of a tape that has no fault. */
        private void readFrom(Tape tape) {
            long word = 0;
            legCount = 0;
            openLeg();
            for (int place = 0; place < tape.size; place++) {
                int b = tape.byteAt(place);
                if (isLetter(b)) {
                    word = word << 8 | b;
                } else {
                    addWord(word);
                    word = 0;
                    if (b == LEG_END) {
                        openLeg();
                    }
                }
            }
            addWord(word);
        }

        private void openLeg() {
            if (legCount >= 0 && legCount < lengths.length) {
                lengths[legCount] = 0;
                legCount++;
            }
        }

        private void addWord(long word) {
            int leg = legCount - 1;
            if (hasLeg(leg) && lengths[leg] < MOST_WORDS) {
                words[leg * MOST_WORDS + lengths[leg]] = word;
                lengths[leg]++;
            }
        }

        private boolean hasLeg(int leg) {
            return leg >= 0 && leg < legCount;
        }

        private int wordsOf(int leg) {
            return leg >= 0 && leg < legCount ? lengths[leg] : 0;
        }

        private long wordAt(int leg, int i) {
            return i >= 0 && i < wordsOf(leg) ? words[leg * MOST_WORDS + i] : 0L;
        }

        private int wordCount() {
            int sum = 0;
            for (int leg = 0; leg < legCount; leg++) {
                sum += wordsOf(leg);
            }
            return sum;
        }

        /** How many words from a place on stand in a row in a leg of the other, at the most. */
        private int longestShared(int leg, int i, Essay other) {
            int longest = 0;
            for (int otherLeg = 0; otherLeg < other.legCount; otherLeg++) {
                for (int j = 0; j < other.wordsOf(otherLeg); j++) {
                    longest = Math.max(longest, sharedFrom(leg, i, other, otherLeg, j));
                }
            }
            return longest;
        }

        private int sharedFrom(int leg, int i, Essay other, int otherLeg, int j) {
            int most = Math.min(wordsOf(leg) - i, other.wordsOf(otherLeg) - j);
            int shared = 0;
            while (shared < most && wordAt(leg, i + shared) == other.wordAt(otherLeg, j + shared)) {
                shared++;
            }
            return shared;
        }
    }

    /** What an essay is held against. */
    private static final class Form {
        private int legCount = 1;
        private final int[] least = new int[MOST_LEGS];
        private final int[] most = new int[MOST_LEGS];
        private final int[] oneSides = new int[MOST_PARALLELS];
        private final int[] otherSides = new int[MOST_PARALLELS];
        private int parallelCount = 0;
        private final long[] barred = new long[MOST_BARRED];
        private int barredCount = 0;

        private Form() {
            for (int leg = 0; leg < MOST_LEGS; leg++) {
                least[leg] = 1;
                most[leg] = MOST_WORDS;
            }
        }

        private void setMeasure(int leg, int leastWords, int mostWords) {
            if (leg >= 0 && leg < MOST_LEGS) {
                least[leg] = leastWords;
                most[leg] = mostWords;
            }
        }

        private void addParallel(int a, int b) {
            if (parallelCount >= 0 && parallelCount < MOST_PARALLELS) {
                oneSides[parallelCount] = a;
                otherSides[parallelCount] = b;
                parallelCount++;
            }
        }

        private void addBarred(long word) {
            if (barredCount >= 0 && barredCount < MOST_BARRED) {
                barred[barredCount] = word;
                barredCount++;
            }
        }

        private boolean isBarred(long word) {
            for (int i = 0; i < barredCount; i++) {
                if (barred[i] == word) {
                    return true;
                }
            }
            return false;
        }

        private int judgementOf(Essay text) {
            if (text.legCount != legCount) {
                return 100 + text.legCount;
            }
            for (int leg = 0; leg < text.legCount; leg++) {
                if (!isWithin(text.wordsOf(leg), least[leg], most[leg])) {
                    return 200 + leg;
                }
            }
            for (int i = 0; i < parallelCount; i++) {
                if (!isKept(text, oneSides[i], otherSides[i])) {
                    return 300 + i;
                }
            }
            for (int leg = 0; leg < text.legCount; leg++) {
                if (hasBarred(text, leg)) {
                    return 400 + leg;
                }
            }
            return 0;
        }

        private static boolean isKept(Essay text, int a, int b) {
            if (!text.hasLeg(a) || !text.hasLeg(b)) {
                return true;
            }
            if (text.wordsOf(a) != text.wordsOf(b)) {
                return false;
            }
            for (int i = 0; i < text.wordsOf(a); i++) {
                if (letterCount(text.wordAt(a, i)) != letterCount(text.wordAt(b, i))) {
                    return false;
                }
            }
            return true;
        }

        private boolean hasBarred(Essay text, int leg) {
            for (int i = 0; i < text.wordsOf(leg); i++) {
                if (isBarred(text.wordAt(leg, i))) {
                    return true;
                }
            }
            return false;
        }
    }

    private static final class Reader {
        private final int province;
        private final int room;
        private int readings = 0;

        private Reader(int province, int room) {
            this.province = province;
            this.room = room;
        }
    }

    private static final class Candidate {
        private final int province;
        private Essay text = null;
        private int number = NONE;
        private int place = NONE;
        private boolean struck = false;
        private int kinBits = 0;
        private final int[] seenBits = new int[HANDS];
        private final int[] readBy = new int[MOST_READINGS];
        private final int[] marks = new int[MOST_READINGS];
        private int readingCount = 0;

        private Candidate(int province) {
            this.province = province;
        }

        private boolean isKinOf(int other) {
            return (kinBits >> other & 1) == 1;
        }

        private void addKin(int other) {
            kinBits |= 1 << other;
        }

        /** Lets a hand see two parts together; false if it had. Bit 4 a + b says: from a to b. */
        private boolean show(int hand, int a, int b) {
            int both = 1 << (PARTS * a + b) | 1 << (PARTS * b + a);
            if (hand < 0 || hand >= seenBits.length || (seenBits[hand] & both) != 0) {
                return false;
            }
            seenBits[hand] |= both;
            return true;
        }

        private boolean isOpenedBy(int set) {
            int pairs = 0;
            for (int hand = 0; hand < HANDS; hand++) {
                if ((set >> hand & 1) == 1) {
                    pairs |= seenBits[hand];
                }
            }
            int reached = 1 << NAME_PART;
            for (int step = 1; step < PARTS; step++) {
                for (int part = 0; part < PARTS; part++) {
                    if ((reached >> part & 1) == 1) {
                        reached |= pairs >> (PARTS * part) & (1 << PARTS) - 1;
                    }
                }
            }
            return (reached >> NUMBER_PART & 1) == 1;
        }

        private boolean hasReading(int i) {
            return i >= 0 && i < readingCount;
        }

        private int readerAt(int i) {
            return i >= 0 && i < readingCount ? readBy[i] : NONE;
        }

        private int markAt(int i) {
            return i >= 0 && i < readingCount ? marks[i] : NONE;
        }

        private boolean isMarked(int i) {
            return markAt(i) != NONE;
        }

        private void addReading(int reader) {
            if (readingCount >= 0 && readingCount < MOST_READINGS) {
                readBy[readingCount] = reader;
                marks[readingCount] = NONE;
                readingCount++;
            }
        }

        private void setMark(int i, int m) {
            if (hasReading(i)) {
                marks[i] = m;
            }
        }

        private int readingOf(int reader) {
            for (int i = 0; i < readingCount; i++) {
                if (readBy[i] == reader) {
                    return i;
                }
            }
            return NONE;
        }

        private int markedCount() {
            int marked = 0;
            for (int i = 0; i < readingCount; i++) {
                marked += isMarked(i) ? 1 : 0;
            }
            return marked;
        }

        private int difference(int i, int j) {
            return Math.abs(markAt(i) - markAt(j));
        }

        private boolean wantsThird(int apart) {
            return readingCount == 2 && markedCount() == 2 && difference(0, 1) > apart;
        }

        /** The two readings whose marks make the score, as bits; 0 where there is none. */
        private int countingReadings(int apart) {
            if (readingCount < 2 || markedCount() < readingCount) {
                return 0;
            }
            if (readingCount > 2) {
                return nearestTwo();
            }
            return difference(0, 1) > apart ? 0 : 1 << 0 | 1 << 1;
        }

        private int nearestTwo() {
            int best = 0;
            int leastDifference = MARKS;
            int greatestSum = 0;
            for (int i = 0; i < readingCount; i++) {
                for (int j = i + 1; j < readingCount; j++) {
                    int difference = difference(i, j);
                    int sum = markAt(i) + markAt(j);
                    if (difference < leastDifference
                            || difference == leastDifference && sum > greatestSum) {
                        best = 1 << i | 1 << j;
                        leastDifference = difference;
                        greatestSum = sum;
                    }
                }
            }
            return best;
        }
    }
}
