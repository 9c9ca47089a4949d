import java.math.BigInteger;
import java.nio.ByteBuffer;
import java.nio.charset.StandardCharsets;
import java.util.BitSet;
import java.util.regex.Matcher;
import java.util.regex.Pattern;

/** The desk once more, with the same calls, upon java.util.BitSet and regular expressions: Twin compares with it. */
final class Reference {
    private static final Pattern STATEMENT_AHEAD = Pattern.compile(
            "(?<set>[a-h])B(?:(?<ranged>[-+^])B(?<from>N)(?:B\\.\\.B(?<to>N))?|(?<sign>[&|~!=])B(?<other>[a-h])"
                    .replace("N", "(?:[0-9]++)").replace("B", "[ \n]*+")
                    + "|=[ \n]*+\\[(?<list>[0-9, \n]*+)\\])[ \n]*+;");

    private final BitSet[] sets = new BitSet[8];
    private final StringBuilder tape = new StringBuilder();
    private String written = "";
    private int errorPosition = -1;
    private int stoppedAt = -1;
    private int refusals = 0;

    Reference() {
        for (int set = 0; set < 8; set++) {
            sets[set] = new BitSet();
        }
        sets[0].set(0, 10);
        for (int even = 0; even < 20; even += 2) {
            sets[1].set(even);
        }
        for (int member : new int[] {1, 2, 3, 5, 8, 13, 21, 63, 64, 127, 128}) {
            sets[2].set(member);
        }
    }

    // ---- The tape and scripts.

    int append(int a, int b, int c, int d, int e) {
        StringBuilder more = new StringBuilder();
        for (int parameter : new int[] {a, b, c, d, e}) {
            for (byte one : ByteBuffer.allocate(4).putInt(parameter).array()) {
                if (one != 0) {
                    more.append((char) (one & 255));
                }
            }
        }
        if (tape.length() + more.length() > 400) {
            throw new IllegalStateException();
        }
        return tape.append(more).length();
    }

    int clearTape() {
        int size = tape.length();
        tape.setLength(0);
        return size;
    }

    int run() {
        String text = tape.toString();
        tape.setLength(0);
        stoppedAt = -1;
        errorPosition = errorOf(text);
        argument(errorPosition == -1);
        Matcher matcher = STATEMENT_AHEAD.matcher(text);
        int done = 0;
        while (matcher.find()) {
            if (!doOne(matcher)) {
                refusals++;
                stoppedAt = done;
                return done;
            }
            done++;
        }
        return done;
    }

    private boolean doOne(Matcher matcher) {
        int place = matcher.group("set").charAt(0) - 'a';
        BitSet set = sets[place];
        if (matcher.group("ranged") != null) {
            int from = Integer.parseInt(matcher.group("from"));
            int to = matcher.group("to") == null ? from + 1 : Integer.parseInt(matcher.group("to"));
            if (from > to) {
                return false;
            }
            switch (matcher.group("ranged")) {
                case "+" -> set.set(from, to);
                case "-" -> set.clear(from, to);
                default -> set.flip(from, to);
            }
        } else if (matcher.group("sign") != null) {
            BitSet other = sets[matcher.group("other").charAt(0) - 'a'];
            switch (matcher.group("sign")) {
                case "&" -> set.and(other);
                case "|" -> set.or(other);
                case "~" -> set.xor(other);
                case "!" -> set.andNot(other);
                default -> sets[place] = (BitSet) other.clone();
            }
        } else {
            sets[place] = new BitSet();
            for (String number : matcher.group("list").split("[, \n]+")) {
                if (!number.isEmpty()) {
                    sets[place].set(Integer.parseInt(number));
                }
            }
        }
        return true;
    }

    /** The grammar as a machine of states: the state says which kinds of tokens fit. */
    private static int errorOf(String text) {
        Matcher token = Pattern.compile("[a-h]|[0-9]+|\\.\\.|[;+^&|~!=\\[\\],-]|[^ \n]").matcher(text);
        String state = "start";
        while (token.find()) {
            String sign = token.group();
            boolean isNumber = sign.matches("[0-9]{1,4}") && Integer.parseInt(sign) < 1024;
            boolean isSet = sign.matches("[a-h]");
            String next = "";
            switch (state) {
                case "start" -> next = isSet ? "action" : "";
                case "action" -> next = sign.matches("[-+^]") ? "from" : sign.matches("[&|~!]") ? "other"
                        : sign.equals("=") ? "other or list" : "";
                case "from" -> next = isNumber ? "range" : "";
                case "range" -> next = sign.equals("..") ? "to" : sign.equals(";") ? "start" : "";
                case "to" -> next = isNumber ? "end" : "";
                case "other" -> next = isSet ? "end" : "";
                case "other or list" -> next = isSet ? "end" : sign.equals("[") ? "first" : "";
                case "first" -> next = isNumber ? "more" : sign.equals("]") ? "end" : "";
                case "number" -> next = isNumber ? "more" : "";
                case "more" -> next = sign.equals(",") ? "number" : sign.equals("]") ? "end" : "";
                default -> next = sign.equals(";") ? "start" : "";
            }
            if (next.isEmpty()) {
                return token.start();
            }
            state = next;
        }
        return state.equals("start") ? -1 : text.length();
    }

    int errorPosition() {
        return errorPosition;
    }

    int stoppedAt() {
        return stoppedAt;
    }

    // ---- Members.

    boolean add(int set, int index) {
        return !put(set, index, true);
    }

    boolean remove(int set, int index) {
        BitSet members = askingAt(set, index, 0);
        boolean was = members.get(index);
        members.clear(index);
        return was;
    }

    boolean put(int set, int index, boolean isMember) {
        BitSet members = filling(set, index);
        boolean was = members.get(index);
        members.set(index, isMember);
        return was;
    }

    boolean flip(int set, int index) {
        filling(set, index).flip(index);
        return sets[set].get(index);
    }

    int addRange(int set, int from, int to) {
        filling(set, from, to).set(from, to);
        return count(set);
    }

    int removeRange(int set, int from, int to) {
        asking(set, from, to).clear(from, to);
        return count(set);
    }

    int putRange(int set, int from, int to, boolean isMember) {
        filling(set, from, to).set(from, to, isMember);
        return count(set);
    }

    int flipRange(int set, int from, int to) {
        filling(set, from, to).flip(from, to);
        return count(set);
    }

    int removeAll(int set) {
        int before = count(set);
        sets[set].clear();
        return before;
    }

    int renew(int set, int numbers) {
        int before = count(set);
        if (numbers < 0) {
            refusals++;
        }
        argument(numbers >= 0 && numbers <= 1024);
        sets[set] = new BitSet(numbers);
        return before;
    }

    // ---- Sets with sets.

    int intersect(int set, int other) {
        at(set).and(at(other));
        return count(set);
    }

    int unite(int set, int other) {
        at(set).or(at(other));
        return count(set);
    }

    int differ(int set, int other) {
        at(set).xor(at(other));
        return count(set);
    }

    int subtract(int set, int other) {
        at(set).andNot(at(other));
        return count(set);
    }

    int copy(int set, int other) {
        at(set);
        sets[set] = (BitSet) at(other).clone();
        return count(set);
    }

    int takePart(int set, int other, int from, int to) {
        at(set);
        sets[set] = asking(other, from, to).get(from, to);
        return count(set);
    }

    int shift(int set, int by) {
        at(set);
        argument(by >= -1023 && by <= 1023);
        BitSet shifted = new BitSet();
        sets[set].stream().map(member -> member + by).filter(n -> n >= 0 && n < 1024).forEach(shifted::set);
        sets[set] = shifted;
        return count(set);
    }

    int sieve(int set, int below) {
        at(set);
        argument(below >= 0 && below <= 1024);
        sets[set] = new BitSet();
        for (int number = 0; number < below; number++) {
            if (BigInteger.valueOf(number).isProbablePrime(50)) {
                sets[set].set(number);
            }
        }
        return count(set);
    }

    // ---- Words and bytes.

    int loadWords(int set, long first, long second, long third) {
        at(set);
        sets[set] = BitSet.valueOf(new long[] {first, second, third});
        return length(set);
    }

    int loadTape(int set) {
        at(set);
        if (tape.length() > 128) {
            throw new IllegalStateException();
        }
        sets[set] = BitSet.valueOf(tape.toString().getBytes(StandardCharsets.ISO_8859_1));
        tape.setLength(0);
        return length(set);
    }

    int wordCount(int set) {
        return at(set).toLongArray().length;
    }

    long wordAt(int set, int place) {
        long[] words = at(set).toLongArray();
        place(place, words.length);
        return words[place];
    }

    int byteCount(int set) {
        return at(set).toByteArray().length;
    }

    int byteAt(int set, int place) {
        byte[] bytes = at(set).toByteArray();
        place(place, bytes.length);
        return bytes[place] & 255;
    }

    int fingerprint(int set) {
        return at(set).hashCode();
    }

    // ---- Questions.

    boolean has(int set, int index) {
        return askingAt(set, index, 0).get(index);
    }

    int count(int set) {
        return at(set).cardinality();
    }

    int countIn(int set, int from, int to) {
        return asking(set, from, to).get(from, to).cardinality();
    }

    int length(int set) {
        return at(set).length();
    }

    boolean isEmpty(int set) {
        return at(set).isEmpty();
    }

    boolean isRoomy(int set) {
        return at(set).size() >= length(set);
    }

    int next(int set, int index) {
        return askingAt(set, index, 0).nextSetBit(index);
    }

    int nextMissing(int set, int index) {
        return askingAt(set, index, 0).nextClearBit(index);
    }

    int previous(int set, int index) {
        return askingAt(set, index, -1).previousSetBit(index);
    }

    int previousMissing(int set, int index) {
        return askingAt(set, index, -1).previousClearBit(index);
    }

    int memberAt(int set, int place) {
        int[] members = at(set).stream().toArray();
        return place >= 0 && place < members.length ? members[place] : -1;
    }

    long sum(int set) {
        return at(set).stream().asLongStream().sum();
    }

    int runs(int set) {
        BitSet after = new BitSet();
        at(set).stream().forEach(member -> after.set(member + 1));
        BitSet starts = (BitSet) sets[set].clone();
        starts.andNot(after);
        return starts.cardinality();
    }

    int longestRun(int set) {
        int best = -1;
        int longest = 0;
        for (int start = at(set).nextSetBit(0); start >= 0;) {
            int end = sets[set].nextClearBit(start);
            if (end - start > longest) {
                longest = end - start;
                best = start;
            }
            start = sets[set].nextSetBit(end);
        }
        return best;
    }

    boolean areEqual(int set, int other) {
        return at(set).equals(at(other));
    }

    boolean meet(int set, int other) {
        return at(set).intersects(at(other));
    }

    boolean isWithin(int set, int other) {
        return common(set, other).equals(at(set));
    }

    int unionCount(int set, int other) {
        return count(set) + count(other) - common(set, other).cardinality();
    }

    int distance(int set, int other) {
        return count(set) + count(other) - 2 * common(set, other).cardinality();
    }

    int firstCommon(int set, int other) {
        return common(set, other).nextSetBit(0);
    }

    // ---- Writing.

    int write(int set) {
        written = at(set).toString();
        return written.length();
    }

    int writtenAt(int index) {
        place(index, written.length());
        return written.charAt(index);
    }

    // ---- Figures and second ways.

    int refusals() {
        return refusals;
    }

    double meanCount() {
        double sum = 0;
        for (BitSet each : sets) {
            sum += each.cardinality();
        }
        return sum / 8;
    }

    float share(int set, int below) {
        at(set);
        argument(below >= 1 && below <= 1024);
        return (float) at(set).get(0, below).cardinality() / (float) below;
    }

    int errors() {
        return 0;
    }

    // ---- What the calls share.

    private BitSet at(int set) {
        argument(set >= 0 && set <= 7);
        return sets[set];
    }

    private void argument(boolean isFine) {
        if (!isFine) {
            throw new IllegalArgumentException();
        }
    }

    private void place(int place, int places) {
        if (place < 0 || place >= places) {
            throw new IndexOutOfBoundsException();
        }
    }

    private BitSet number(BitSet members, boolean isFine) {
        if (!isFine) {
            refusals++;
            throw new IndexOutOfBoundsException();
        }
        return members;
    }

    private BitSet filling(int set, int index) {
        argument(index <= 1023);
        return askingAt(set, index, 0);
    }

    private BitSet askingAt(int set, int index, int least) {
        return number(at(set), index >= least);
    }

    private BitSet filling(int set, int from, int to) {
        argument(to <= 1024);
        return asking(set, from, to);
    }

    private BitSet asking(int set, int from, int to) {
        return number(at(set), from >= 0 && to >= 0 && from <= to);
    }

    private BitSet common(int set, int other) {
        BitSet common = (BitSet) at(set).clone();
        common.and(at(other));
        return common;
    }
}
