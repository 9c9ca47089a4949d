/**
 * A desk with eight sets of numbers, as ../shared/DOC.md tells it.
 *
 * The sets are rows of words of their own, as LANGUAGE.md leaves no java.util.BitSet. All rows are made with the
 * desk and used again, so that no call makes an object but the exception that it throws.
 */
public final class NumberSetDesk {
    public static final int NONE = -1;

    private static final int SETS = 8;
    private static final int LIMIT = 1024;
    private static final int GREATEST = LIMIT - 1;
    private static final int WORDS = LIMIT / 64;
    private static final int TAPE_LIMIT = 400;
    private static final int LOADED_BYTES_LIMIT = LIMIT / 8;
    private static final int[] FIRST_OF_SET_2 = {1, 2, 3, 5, 8, 13, 21, 63, 64, 127, 128};

    private final Members[] sets;
    private final Tape tape;
    private final Script script;
    private final Text text;
    private int errorPosition;
    private int stoppedAt;
    private int refusals;

    public NumberSetDesk() {
        sets = new Members[SETS];
        for (int set = 0; set < SETS; set++) {
            sets[set] = new Members();
        }
        sets[0].include(0, 10);
        for (int even = 0; even <= 18; even += 2) {
            sets[1].includeOne(even);
        }
        for (int index : FIRST_OF_SET_2) {
            sets[2].includeOne(index);
        }
        tape = new Tape();
        script = new Script();
        text = new Text();
        errorPosition = NONE;
        stoppedAt = NONE;
        refusals = 0;
    }

    // ---- The tape and scripts.

    public int append(int a, int b, int c, int d, int e) throws IllegalStateException {
        int more = Tape.bytesOf(a) + Tape.bytesOf(b) + Tape.bytesOf(c) + Tape.bytesOf(d) + Tape.bytesOf(e);
        if (tape.size() + more > TAPE_LIMIT) {
            throw new IllegalStateException("the tape would have too many bytes");
        }
        tape.take(a);
        tape.take(b);
        tape.take(c);
        tape.take(d);
        tape.take(e);
        return tape.size();
    }

    public int clearTape() {
        int bytes = tape.size();
        tape.empty();
        return bytes;
    }

    public int run() throws IllegalArgumentException {
        errorPosition = script.read(tape);
        stoppedAt = NONE;
        tape.empty();
        if (errorPosition != NONE) {
            throw new IllegalArgumentException("the text has an error");
        }
        return doStatements();
    }

    public int errorPosition() {
        return errorPosition;
    }

    public int stoppedAt() {
        return stoppedAt;
    }

    // ---- Members.

    public boolean add(int set, int index) throws IllegalArgumentException, IndexOutOfBoundsException {
        Members members = setToFillAt(set, index);
        boolean wasMember = members.holds(index);
        members.includeOne(index);
        return !wasMember;
    }

    public boolean remove(int set, int index) throws IllegalArgumentException, IndexOutOfBoundsException {
        Members members = setAskedAt(set, index, 0);
        boolean wasMember = members.holds(index);
        members.excludeOne(index);
        return wasMember;
    }

    public boolean put(int set, int index, boolean isMember)
            throws IllegalArgumentException, IndexOutOfBoundsException {
        Members members = setToFillAt(set, index);
        boolean wasMember = members.holds(index);
        members.decideOne(index, isMember);
        return wasMember;
    }

    public boolean flip(int set, int index) throws IllegalArgumentException, IndexOutOfBoundsException {
        Members members = setToFillAt(set, index);
        boolean isMember = !members.holds(index);
        members.decideOne(index, isMember);
        return isMember;
    }

    public int addRange(int set, int from, int to) throws IllegalArgumentException, IndexOutOfBoundsException {
        Members members = setToFillIn(set, from, to);
        members.include(from, to);
        return members.size();
    }

    public int removeRange(int set, int from, int to) throws IllegalArgumentException, IndexOutOfBoundsException {
        Members members = setAskedIn(set, from, to);
        members.exclude(from, to);
        return members.size();
    }

    public int putRange(int set, int from, int to, boolean isMember)
            throws IllegalArgumentException, IndexOutOfBoundsException {
        Members members = setToFillIn(set, from, to);
        members.decide(from, to, isMember);
        return members.size();
    }

    public int flipRange(int set, int from, int to) throws IllegalArgumentException, IndexOutOfBoundsException {
        Members members = setToFillIn(set, from, to);
        members.toggle(from, to);
        return members.size();
    }

    public int removeAll(int set) throws IllegalArgumentException {
        Members members = setOf(set);
        int before = members.size();
        members.clear();
        return before;
    }

    public int renew(int set, int numbers) throws IllegalArgumentException {
        Members members = setOf(set);
        if (numbers < 0) {
            refusals++;
        }
        checkNumber(numbers, 0, LIMIT);
        int before = members.size();
        members.clear();
        return before;
    }

    // ---- Sets with sets.

    public int intersect(int set, int other) throws IllegalArgumentException {
        return combine(set, '&', other);
    }

    public int unite(int set, int other) throws IllegalArgumentException {
        return combine(set, '|', other);
    }

    public int differ(int set, int other) throws IllegalArgumentException {
        return combine(set, '~', other);
    }

    public int subtract(int set, int other) throws IllegalArgumentException {
        return combine(set, '!', other);
    }

    public int copy(int set, int other) throws IllegalArgumentException {
        return combine(set, '=', other);
    }

    public int takePart(int set, int other, int from, int to)
            throws IllegalArgumentException, IndexOutOfBoundsException {
        Members members = setOf(set);
        Members whole = setAskedIn(other, from, to);
        members.becomePart(whole, from, to);
        return members.size();
    }

    public int shift(int set, int by) throws IllegalArgumentException {
        Members members = setOf(set);
        checkNumber(by, -GREATEST, GREATEST);
        if (by > 0) {
            members.moveUp(by);
        } else {
            members.becomePart(members, -by, LIMIT);
        }
        return members.size();
    }

    public int sieve(int set, int below) throws IllegalArgumentException {
        Members members = setOf(set);
        checkNumber(below, 0, LIMIT);
        members.becomePrimes(below);
        return members.size();
    }

    // ---- Words and bytes.

    public int loadWords(int set, long first, long second, long third) throws IllegalArgumentException {
        Members members = setOf(set);
        members.becomeWords(first, second, third);
        return members.end();
    }

    public int loadTape(int set) throws IllegalArgumentException, IllegalStateException {
        Members members = setOf(set);
        if (tape.size() > LOADED_BYTES_LIMIT) {
            throw new IllegalStateException("the tape has too many bytes");
        }
        members.becomeBytes(tape);
        tape.empty();
        return members.end();
    }

    public int wordCount(int set) throws IllegalArgumentException {
        return setOf(set).usedWords();
    }

    public long wordAt(int set, int place) throws IllegalArgumentException, IndexOutOfBoundsException {
        Members members = setOf(set);
        checkPlace(place, members.usedWords());
        return members.word(place);
    }

    public int byteCount(int set) throws IllegalArgumentException {
        return setOf(set).usedBytes();
    }

    public int byteAt(int set, int place) throws IllegalArgumentException, IndexOutOfBoundsException {
        Members members = setOf(set);
        checkPlace(place, members.usedBytes());
        return (int) (members.wordFrom(8 * place) & 255);
    }

    public int fingerprint(int set) throws IllegalArgumentException {
        return setOf(set).digest();
    }

    // ---- Questions.

    public boolean has(int set, int index) throws IllegalArgumentException, IndexOutOfBoundsException {
        return setAskedAt(set, index, 0).holds(index);
    }

    public int count(int set) throws IllegalArgumentException {
        return setOf(set).size();
    }

    public int countIn(int set, int from, int to) throws IllegalArgumentException, IndexOutOfBoundsException {
        return setAskedIn(set, from, to).sizeIn(from, to);
    }

    public int length(int set) throws IllegalArgumentException {
        return setOf(set).end();
    }

    public boolean isEmpty(int set) throws IllegalArgumentException {
        return setOf(set).size() == 0;
    }

    public boolean isRoomy(int set) throws IllegalArgumentException {
        return setOf(set).end() <= LIMIT;
    }

    public int next(int set, int index) throws IllegalArgumentException, IndexOutOfBoundsException {
        return setAskedAt(set, index, 0).firstFrom(index);
    }

    public int nextMissing(int set, int index) throws IllegalArgumentException, IndexOutOfBoundsException {
        return setAskedAt(set, index, 0).firstGapFrom(index);
    }

    public int previous(int set, int index) throws IllegalArgumentException, IndexOutOfBoundsException {
        return setAskedAt(set, index, -1).lastUpTo(index);
    }

    public int previousMissing(int set, int index) throws IllegalArgumentException, IndexOutOfBoundsException {
        return setAskedAt(set, index, -1).lastGapUpTo(index);
    }

    public int memberAt(int set, int place) throws IllegalArgumentException {
        return setOf(set).memberInPlace(place);
    }

    public long sum(int set) throws IllegalArgumentException {
        return setOf(set).total();
    }

    public int runs(int set) throws IllegalArgumentException {
        return setOf(set).rows();
    }

    public int longestRun(int set) throws IllegalArgumentException {
        return setOf(set).longestRow();
    }

    public boolean areEqual(int set, int other) throws IllegalArgumentException {
        return setOf(set).sizeOfEither(setOf(other)) == setOf(set).sizeOfCommon(setOf(other));
    }

    public boolean meet(int set, int other) throws IllegalArgumentException {
        return setOf(set).sizeOfCommon(setOf(other)) > 0;
    }

    public boolean isWithin(int set, int other) throws IllegalArgumentException {
        return setOf(set).sizeOfCommon(setOf(other)) == setOf(set).size();
    }

    public int unionCount(int set, int other) throws IllegalArgumentException {
        return setOf(set).sizeOfEither(setOf(other));
    }

    public int distance(int set, int other) throws IllegalArgumentException {
        return setOf(set).sizeOfEither(setOf(other)) - setOf(set).sizeOfCommon(setOf(other));
    }

    public int firstCommon(int set, int other) throws IllegalArgumentException {
        return setOf(set).firstCommonWith(setOf(other));
    }

    // ---- Writing.

    public int write(int set) throws IllegalArgumentException {
        text.tell(setOf(set));
        return text.size();
    }

    public int writtenAt(int index) throws IndexOutOfBoundsException {
        checkPlace(index, text.size());
        return text.sign(index);
    }

    // ---- Figures and second ways.

    public int refusals() {
        return refusals;
    }

    public double meanCount() {
        int members = 0;
        for (Members each : sets) {
            members += each.size();
        }
        return (double) members / 8.0;
    }

    public float share(int set, int below) throws IllegalArgumentException {
        Members members = setOf(set);
        checkNumber(below, 1, LIMIT);
        return (float) members.sizeIn(0, below) / (float) below;
    }

    public int errors() {
        int pairs = 0;
        for (int set = 0; set < SETS; set++) {
            for (int other = set + 1; other < SETS; other++) {
                if (!sets[set].keepsLawsWith(sets[other])) {
                    pairs++;
                }
            }
        }
        return pairs;
    }

    // ---- What the calls share. The order of the checks is the order in which the promises list the exceptions.

    private Members setOf(int set) {
        if (set < 0 || set >= SETS) {
            throw new IllegalArgumentException("there is no such set");
        }
        return sets[set];
    }

    private Members setAskedAt(int set, int index, int least) {
        Members members = setOf(set);
        if (index < least) {
            refusals++;
            throw new IndexOutOfBoundsException("the index is too small");
        }
        return members;
    }

    private Members setToFillAt(int set, int index) {
        if (index > GREATEST) {
            throw new IllegalArgumentException("the index is above 1023");
        }
        return setAskedAt(set, index, 0);
    }

    private Members setAskedIn(int set, int from, int to) {
        Members members = setOf(set);
        if (from < 0 || to < 0 || from > to) {
            refusals++;
            throw new IndexOutOfBoundsException("the numbers are no range");
        }
        return members;
    }

    private Members setToFillIn(int set, int from, int to) {
        if (to > LIMIT) {
            throw new IllegalArgumentException("the range goes beyond 1023");
        }
        return setAskedIn(set, from, to);
    }

    private static void checkNumber(int number, int least, int greatest) {
        if (number < least || number > greatest) {
            throw new IllegalArgumentException("the number is out of range");
        }
    }

    private static void checkPlace(int place, int places) {
        if (place < 0 || place >= places) {
            throw new IndexOutOfBoundsException("there is no such place");
        }
    }

    private int combine(int set, int sign, int other) {
        Members members = setOf(set);
        members.combineWith(setOf(other), sign);
        return members.size();
    }

    private int doStatements() {
        for (int n = 0; n < script.statements() && n < Script.MOST_STATEMENTS; n++) {
            Statement statement = script.statement(n);
            if (statement.first > statement.second) {
                refusals++;
                stoppedAt = n;
                return n;
            }
            doStatement(statement);
        }
        return script.statements();
    }

    private void doStatement(Statement statement) {
        Members target = setOf(statement.target);
        switch (statement.action) {
            case '+':
                target.include(statement.first, statement.second);
                break;
            case '-':
                target.exclude(statement.first, statement.second);
                break;
            case '^':
                target.toggle(statement.first, statement.second);
                break;
            case '[':
                script.fill(target, statement.first, statement.second);
                break;
            default:
                target.combineWith(setOf(statement.first), statement.action);
                break;
        }
    }

    /** One set: bit i of word k stands for the number 64 k + i. */
    private static final class Members {
        private final long[] words = new long[WORDS];

        /** The bits of word k that stand for numbers of a range; its end may lie far beyond the last word. */
        private static long bitsIn(int k, int from, int to) {
            int low = Math.max(from - 64 * k, 0);
            int high = Math.min(to - 64 * k, 64);
            return low < high ? -1L >>> (64 - (high - low)) << low : 0L;
        }

        long word(int k) {
            return k >= 0 && k < WORDS ? words[k] : 0L;
        }

        /** The 64 numbers from a number on as one word; the number may be below 0. */
        long wordFrom(int from) {
            int k = from >> 6;
            int skipped = from & 63;
            if (skipped == 0) {
                // a shift by 64 would leave the higher word as it is
                return word(k);
            }
            return word(k) >>> skipped | word(k + 1) << (64 - skipped);
        }

        boolean holds(int index) {
            return (word(index >> 6) >>> (index & 63) & 1L) != 0L;
        }

        void includeOne(int index) {
            if (index >= 0 && index < LIMIT) {
                words[index >> 6] |= 1L << (index & 63);
            }
        }

        void excludeOne(int index) {
            if (index >= 0 && index < LIMIT) {
                words[index >> 6] &= ~(1L << (index & 63));
            }
        }

        void decideOne(int index, boolean isMember) {
            if (isMember) {
                includeOne(index);
            } else {
                excludeOne(index);
            }
        }

        void include(int from, int to) {
            for (int k = 0; k < WORDS; k++) {
                words[k] |= bitsIn(k, from, to);
            }
        }

        void exclude(int from, int to) {
            for (int k = 0; k < WORDS; k++) {
                words[k] &= ~bitsIn(k, from, to);
            }
        }

        void toggle(int from, int to) {
            for (int k = 0; k < WORDS; k++) {
                words[k] ^= bitsIn(k, from, to);
            }
        }

        void decide(int from, int to, boolean areMembers) {
            if (areMembers) {
                include(from, to);
            } else {
                exclude(from, to);
            }
        }

        void clear() {
            exclude(0, LIMIT);
        }

        void combineWith(Members other, int sign) {
            for (int k = 0; k < WORDS; k++) {
                words[k] = combined(words[k], other.words[k], sign);
            }
        }

        private static long combined(long mine, long others, int sign) {
            switch (sign) {
                case '&':
                    return mine & others;
                case '|':
                    return mine | others;
                case '~':
                    return mine ^ others;
                case '!':
                    return mine & ~others;
                default:
                    return others;
            }
        }

        /** Goes upwards, as the whole may be this set: what is read then is not yet written. */
        void becomePart(Members whole, int from, int to) {
            // beyond the limit there is nothing to take, and a greater start could wrap
            int start = Math.min(from, LIMIT);
            for (int k = 0; k < WORDS; k++) {
                words[k] = whole.wordFrom(64 * k + start) & bitsIn(k, 0, to - from);
            }
        }

        /** Goes downwards: what is read then is not yet written. */
        void moveUp(int by) {
            for (int k = WORDS - 1; k >= 0; k--) {
                words[k] = wordFrom(64 * k - by);
            }
        }

        void becomePrimes(int below) {
            clear();
            include(2, below);
            for (int factor = 2; factor < LIMIT && factor * factor < below; factor++) {
                if (holds(factor)) {
                    excludeMultiples(factor, below);
                }
            }
        }

        private void excludeMultiples(int factor, int below) {
            for (int times = factor; times < LIMIT && times * factor < below; times++) {
                excludeOne(times * factor);
            }
        }

        void becomeWords(long first, long second, long third) {
            clear();
            words[0] = first;
            words[1] = second;
            words[2] = third;
        }

        void becomeBytes(Tape tape) {
            clear();
            for (int i = 0; i < LOADED_BYTES_LIMIT; i++) {
                words[i >> 3] |= (long) tape.sign(i) << 8 * (i & 7);
            }
        }

        int sizeIn(int from, int to) {
            int size = 0;
            for (int k = 0; k < WORDS; k++) {
                size += Long.bitCount(words[k] & bitsIn(k, from, to));
            }
            return size;
        }

        int size() {
            return sizeIn(0, LIMIT);
        }

        int end() {
            // without members NONE, so that 0 comes of it
            return lastUpTo(GREATEST) + 1;
        }

        int usedWords() {
            return (end() + 63) / 64;
        }

        int usedBytes() {
            return (end() + 7) / 8;
        }

        int digest() {
            long h = 1234;
            for (int k = WORDS - 1; k >= 0; k--) {
                h ^= words[k] * (k + 1);
            }
            return (int) (h ^ h >> 32);
        }

        int firstFrom(int index) {
            for (int k = 0; k < WORDS; k++) {
                long bits = words[k] & bitsIn(k, index, LIMIT);
                if (bits != 0L) {
                    return 64 * k + Long.numberOfTrailingZeros(bits);
                }
            }
            return NONE;
        }

        int firstGapFrom(int index) {
            for (int k = 0; k < WORDS; k++) {
                long bits = ~words[k] & bitsIn(k, index, LIMIT);
                if (bits != 0L) {
                    return 64 * k + Long.numberOfTrailingZeros(bits);
                }
            }
            return Math.max(index, LIMIT);
        }

        int lastUpTo(int index) {
            int end = Math.min(index, GREATEST) + 1;
            for (int k = WORDS - 1; k >= 0; k--) {
                long bits = words[k] & bitsIn(k, 0, end);
                if (bits != 0L) {
                    return 64 * k + 63 - Long.numberOfLeadingZeros(bits);
                }
            }
            return NONE;
        }

        int lastGapUpTo(int index) {
            if (index > GREATEST) {
                return index;
            }
            for (int k = WORDS - 1; k >= 0; k--) {
                long bits = ~words[k] & bitsIn(k, 0, index + 1);
                if (bits != 0L) {
                    return 64 * k + 63 - Long.numberOfLeadingZeros(bits);
                }
            }
            return NONE;
        }

        int memberInPlace(int place) {
            int ahead = 0;
            int end = end();
            for (int index = 0; index < end; index++) {
                if (holds(index)) {
                    if (ahead == place) {
                        return index;
                    }
                    ahead++;
                }
            }
            return NONE;
        }

        long total() {
            long total = 0;
            int end = end();
            for (int index = 0; index < end; index++) {
                if (holds(index)) {
                    total += index;
                }
            }
            return total;
        }

        int rows() {
            int rows = 0;
            int end = end();
            for (int index = 0; index < end; index++) {
                if (holds(index) && !holds(index - 1)) {
                    rows++;
                }
            }
            return rows;
        }

        int longestRow() {
            int start = NONE;
            int longest = 0;
            int row = 0;
            int end = end();
            for (int index = 0; index < end; index++) {
                row = holds(index) ? row + 1 : 0;
                if (row > longest) {
                    longest = row;
                    start = index - row + 1;
                }
            }
            return start;
        }

        int sizeOfCommon(Members other) {
            int size = 0;
            for (int k = 0; k < WORDS; k++) {
                size += Long.bitCount(words[k] & other.words[k]);
            }
            return size;
        }

        int sizeOfEither(Members other) {
            int size = 0;
            for (int k = 0; k < WORDS; k++) {
                size += Long.bitCount(words[k] | other.words[k]);
            }
            return size;
        }

        int firstCommonWith(Members other) {
            for (int k = 0; k < WORDS; k++) {
                long bits = words[k] & other.words[k];
                if (bits != 0L) {
                    return 64 * k + Long.numberOfTrailingZeros(bits);
                }
            }
            return NONE;
        }

        boolean keepsLawsWith(Members other) {
            for (int k = 0; k < WORDS; k++) {
                if (~(words[k] | other.words[k]) != (~words[k] & ~other.words[k])) {
                    return false;
                }
            }
            return size() + other.size() - sizeOfCommon(other) == sizeOfEither(other);
        }
    }

    /** The tape. None of its bytes is 0, so that 0 can stand for what is not on it. */
    private static final class Tape {
        private final char[] bytes = new char[TAPE_LIMIT];
        private int size = 0;

        static int bytesOf(int four) {
            int count = 0;
            for (int shift = 24; shift >= 0; shift -= 8) {
                if ((four >>> shift & 255) != 0) {
                    count++;
                }
            }
            return count;
        }

        void take(int four) {
            for (int shift = 24; shift >= 0; shift -= 8) {
                int one = four >>> shift & 255;
                if (one != 0 && size < TAPE_LIMIT) {
                    bytes[size] = (char) one;
                    size++;
                }
            }
        }

        int size() {
            return size;
        }

        char sign(int index) {
            return index >= 0 && index < size && index < TAPE_LIMIT ? bytes[index] : (char) 0;
        }

        void empty() {
            size = 0;
        }
    }

    /** The tokens of a text, in their order; a token of one sign is of the kind that is this sign. */
    private static final class Tokens {
        static final int END = 0;
        static final int NO_TOKEN = 1;
        static final int SET = 2;
        static final int NUMBER = 3;
        static final int TWO_POINTS = 4;
        private static final int MOST_DIGITS = 4;

        private final int[] kinds = new int[TAPE_LIMIT];
        private final int[] values = new int[TAPE_LIMIT];
        private final int[] starts = new int[TAPE_LIMIT];
        private int count = 0;
        private int place = 0;
        private int textSize = 0;

        /** Reads all tokens of a text, and goes to the first of them. */
        void readAll(Tape tape) {
            count = 0;
            place = 0;
            textSize = tape.size();
            int behind = 0;
            for (int start = 0; start < textSize; start++) {
                if (start >= behind && !isBlank(tape.sign(start))) {
                    behind = start + readOne(tape, start);
                }
            }
        }

        int kind() {
            return place >= 0 && place < count && place < TAPE_LIMIT ? kinds[place] : END;
        }

        int value() {
            return place >= 0 && place < count && place < TAPE_LIMIT ? values[place] : 0;
        }

        int start() {
            return place >= 0 && place < count && place < TAPE_LIMIT ? starts[place] : textSize;
        }

        void advance() {
            place++;
        }

        /** Answers how many bytes the token takes. */
        private int readOne(Tape tape, int start) {
            char sign = tape.sign(start);
            if (isDigit(sign)) {
                return readNumber(tape, start);
            }
            if (sign >= 'a' && sign <= 'h') {
                keep(SET, sign - 'a', start);
                return 1;
            }
            if (sign == '.' && tape.sign(start + 1) == '.') {
                keep(TWO_POINTS, 0, start);
                return 2;
            }
            keep(isSign(sign) ? sign : NO_TOKEN, 0, start);
            return 1;
        }

        private int readNumber(Tape tape, int start) {
            int number = 0;
            int behind = start;
            while (behind < textSize && isDigit(tape.sign(behind))) {
                // a number that is too great stays too great, however many digits follow
                number = Math.min(10 * number + (tape.sign(behind) - '0'), LIMIT);
                behind++;
            }
            boolean isNumber = behind - start <= MOST_DIGITS && number <= GREATEST;
            keep(isNumber ? NUMBER : NO_TOKEN, number, start);
            return behind - start;
        }

        private void keep(int kind, int value, int start) {
            if (count >= 0 && count < TAPE_LIMIT) {
                kinds[count] = kind;
                values[count] = value;
                starts[count] = start;
                count++;
            }
        }

        private static boolean isBlank(char sign) {
            return sign == ' ' || sign == '\n';
        }

        private static boolean isDigit(char sign) {
            return sign >= '0' && sign <= '9';
        }

        private static boolean isSign(char sign) {
            return ";+-^&|~!=[],".indexOf(sign) >= 0;
        }
    }

    /** What one statement does; only a pair of numbers that is no range has its first above its second. */
    private static final class Statement {
        int target;
        int action;
        int first;
        int second;
    }

    /** The statements of a text, read as a whole before the first of them is done. */
    private static final class Script {
        private static final int SHORTEST_STATEMENT = 4;
        private static final int MOST_STATEMENTS = TAPE_LIMIT / SHORTEST_STATEMENT;

        private final Tokens tokens = new Tokens();
        private final Statement[] statements = new Statement[MOST_STATEMENTS];
        private final int[] listed = new int[TAPE_LIMIT];
        private int statementCount = 0;
        private int listedCount = 0;

        Script() {
            for (int n = 0; n < MOST_STATEMENTS; n++) {
                statements[n] = new Statement();
            }
        }

        int statements() {
            return statementCount;
        }

        Statement statement(int n) {
            return statements[n];
        }

        /** Puts the listed members from one place of the list to another into a set. */
        void fill(Members target, int from, int to) {
            target.clear();
            for (int place = from; place < to && place < TAPE_LIMIT; place++) {
                target.includeOne(listed[place]);
            }
        }

        /** Answers the error position, NONE without an error. */
        int read(Tape tape) {
            statementCount = 0;
            listedCount = 0;
            tokens.readAll(tape);
            for (int n = 0; n < MOST_STATEMENTS && tokens.kind() != Tokens.END; n++) {
                if (!readStatement(statements[n])) {
                    return tokens.start();
                }
                statementCount++;
            }
            return NONE;
        }

        private boolean readStatement(Statement statement) {
            if (tokens.kind() != Tokens.SET) {
                return false;
            }
            statement.target = tokens.value();
            tokens.advance();
            return readAction(statement) && pass(';');
        }

        private boolean readAction(Statement statement) {
            int sign = tokens.kind();
            statement.action = sign;
            if (pass('+') || pass('-') || pass('^')) {
                return readRange(statement);
            }
            if (pass('=')) {
                return tokens.kind() == '[' ? readList(statement) : readSet(statement);
            }
            return (pass('&') || pass('|') || pass('~') || pass('!')) && readSet(statement);
        }

        private boolean readRange(Statement statement) {
            statement.first = tokens.value();
            // one number alone is the range of itself
            statement.second = statement.first + 1;
            if (!pass(Tokens.NUMBER)) {
                return false;
            }
            if (!pass(Tokens.TWO_POINTS)) {
                return true;
            }
            statement.second = tokens.value();
            return pass(Tokens.NUMBER);
        }

        private boolean readSet(Statement statement) {
            statement.first = tokens.value();
            statement.second = tokens.value();
            return pass(Tokens.SET);
        }

        private boolean readList(Statement statement) {
            statement.action = '[';
            statement.first = listedCount;
            statement.second = listedCount;
            tokens.advance();
            if (pass(']')) {
                return true;
            }
            // each number takes a byte of the tape, so that the bound is never met
            for (int n = listedCount; n < TAPE_LIMIT; n++) {
                listed[n] = tokens.value();
                if (!pass(Tokens.NUMBER)) {
                    return false;
                }
                listedCount = n + 1;
                statement.second = listedCount;
                if (!pass(',')) {
                    return pass(']');
                }
            }
            return false;
        }

        private boolean pass(int kind) {
            if (tokens.kind() != kind) {
                return false;
            }
            tokens.advance();
            return true;
        }
    }

    /** The text that was written last. */
    private static final class Text {
        /** Two braces, 1023 separators of two signs, and the digits of the numbers of 1 to 4 digits. */
        private static final int LONGEST = 2 + 2 * 1023 + 10 + 2 * 90 + 3 * 900 + 4 * 24;

        private final char[] signs = new char[LONGEST];
        private int size = 0;

        int size() {
            return size;
        }

        int sign(int index) {
            return index >= 0 && index < size && index < LONGEST ? signs[index] : NONE;
        }

        void tell(Members members) {
            size = 0;
            putSign('{');
            int end = members.end();
            for (int index = 0; index < end; index++) {
                if (members.holds(index)) {
                    putNumber(index);
                }
            }
            putSign('}');
        }

        private void putNumber(int number) {
            if (size > 1) {
                putSign(',');
                putSign(' ');
            }
            for (int unit = 1000; unit > 0; unit /= 10) {
                if (number >= unit || unit == 1) {
                    putSign((char) ('0' + number / unit % 10));
                }
            }
        }

        private void putSign(char sign) {
            if (size < LONGEST) {
                signs[size] = sign;
                size++;
            }
        }
    }
}
