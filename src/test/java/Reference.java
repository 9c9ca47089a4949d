import java.util.BitSet;
import java.util.regex.Matcher;
import java.util.regex.Pattern;

/** The desk once more, upon java.util.BitSet and regular expressions, for the comparison with random calls. */
final class Reference {
    private static final Pattern STATEMENT_AHEAD = Pattern.compile(
            "(?<set>[a-h])B(?:(?<ranged>[-+^])B(?<from>N)(?:B\\.\\.B(?<to>N))?|(?<sign>[&|~!=])B(?<other>[a-h])"
                    .replace("N", "(?:[0-9]++)").replace("B", "[ \n]*+")
                    + "|=[ \n]*+\\[(?<list>[0-9, \n]*+)\\])[ \n]*+;");

    final BitSet[] sets = new BitSet[8];
    final StringBuilder tape = new StringBuilder();
    String written = "";
    int errorPosition = -1;
    int stoppedAt = -1;
    int refusals = 0;

    Reference() {
        for (int set = 0; set < 8; set++) {
            sets[set] = new BitSet();
        }
        sets[0].set(0, 10);
        for (int even = 0; even < 20; even += 2) {
            sets[1].set(even);
        }
        for (int member : new int[] {1, 2, 3, 5, 8, 13, 21, 63, 64, 127, 128}) {
            sets[2].set(member);
        }
    }

    BitSet at(int set) {
        if (set < 0 || set > 7) {
            throw new IllegalArgumentException();
        }
        return sets[set];
    }

    void argument(boolean isFine) {
        if (!isFine) {
            throw new IllegalArgumentException();
        }
    }

    void index(boolean isFine) {
        if (!isFine) {
            refusals++;
            throw new IndexOutOfBoundsException();
        }
    }

    int append(int... parameters) {
        StringBuilder more = new StringBuilder();
        for (int parameter : parameters) {
            for (byte one : java.nio.ByteBuffer.allocate(4).putInt(parameter).array()) {
                if (one != 0) {
                    more.append((char) (one & 255));
                }
            }
        }
        if (tape.length() + more.length() > 400) {
            throw new IllegalStateException();
        }
        return tape.append(more).length();
    }

    int clearTape() {
        int size = tape.length();
        tape.setLength(0);
        return size;
    }

    int run() {
        String text = tape.toString();
        tape.setLength(0);
        stoppedAt = -1;
        errorPosition = errorOf(text);
        argument(errorPosition == -1);
        Matcher matcher = STATEMENT_AHEAD.matcher(text);
        int done = 0;
        while (matcher.find()) {
            if (!doOne(matcher)) {
                refusals++;
                stoppedAt = done;
                return done;
            }
            done++;
        }
        return done;
    }

    private boolean doOne(Matcher matcher) {
        int place = matcher.group("set").charAt(0) - 'a';
        BitSet set = sets[place];
        if (matcher.group("ranged") != null) {
            int from = Integer.parseInt(matcher.group("from"));
            int to = matcher.group("to") == null ? from + 1 : Integer.parseInt(matcher.group("to"));
            if (from > to) {
                return false;
            }
            switch (matcher.group("ranged")) {
                case "+" -> set.set(from, to);
                case "-" -> set.clear(from, to);
                default -> set.flip(from, to);
            }
        } else if (matcher.group("sign") != null) {
            BitSet other = sets[matcher.group("other").charAt(0) - 'a'];
            switch (matcher.group("sign")) {
                case "&" -> set.and(other);
                case "|" -> set.or(other);
                case "~" -> set.xor(other);
                case "!" -> set.andNot(other);
                default -> sets[place] = (BitSet) other.clone();
            }
        } else {
            sets[place] = new BitSet();
            for (String number : matcher.group("list").split("[, \n]+")) {
                if (!number.isEmpty()) {
                    sets[place].set(Integer.parseInt(number));
                }
            }
        }
        return true;
    }

    /** The grammar as a machine of states: the state says which kinds of tokens fit. */
    static int errorOf(String text) {
        Matcher token = Pattern.compile("[a-h]|[0-9]+|\\.\\.|[;+^&|~!=\\[\\],-]|[^ \n]").matcher(text);
        String state = "start";
        while (token.find()) {
            String sign = token.group();
            boolean isNumber = sign.matches("[0-9]{1,4}") && Integer.parseInt(sign) < 1024;
            boolean isSet = sign.matches("[a-h]");
            String next = "";
            switch (state) {
                case "start" -> next = isSet ? "action" : "";
                case "action" -> next = sign.matches("[-+^]") ? "from" : sign.matches("[&|~!]") ? "other"
                        : sign.equals("=") ? "other or list" : "";
                case "from" -> next = isNumber ? "range" : "";
                case "range" -> next = sign.equals("..") ? "to" : sign.equals(";") ? "start" : "";
                case "to" -> next = isNumber ? "end" : "";
                case "other" -> next = isSet ? "end" : "";
                case "other or list" -> next = isSet ? "end" : sign.equals("[") ? "first" : "";
                case "first" -> next = isNumber ? "more" : sign.equals("]") ? "end" : "";
                case "number" -> next = isNumber ? "more" : "";
                case "more" -> next = sign.equals(",") ? "number" : sign.equals("]") ? "end" : "";
                default -> next = sign.equals(";") ? "start" : "";
            }
            if (next.isEmpty()) {
                return token.start();
            }
            state = next;
        }
        return state.equals("start") ? -1 : text.length();
    }

    BitSet filling(int set, int index) {
        at(set);
        argument(index <= 1023);
        index(index >= 0);
        return sets[set];
    }

    BitSet asking(int set, int index, int least) {
        at(set);
        index(index >= least);
        return sets[set];
    }

    BitSet filling(int set, int from, int to) {
        at(set);
        argument(to <= 1024);
        index(from >= 0 && to >= 0 && from <= to);
        return sets[set];
    }

    BitSet askingIn(int set, int from, int to) {
        at(set);
        index(from >= 0 && to >= 0 && from <= to);
        return sets[set];
    }

    int renew(int set, int numbers) {
        int before = at(set).cardinality();
        if (numbers < 0) {
            refusals++;
        }
        argument(numbers >= 0 && numbers <= 1024);
        sets[set] = new BitSet(numbers);
        return before;
    }

    int takePart(int set, int other, int from, int to) {
        at(set);
        sets[set] = askingIn(other, from, to).get(from, to);
        return sets[set].cardinality();
    }

    int shift(int set, int by) {
        at(set);
        argument(by >= -1023 && by <= 1023);
        BitSet shifted = new BitSet();
        sets[set].stream().map(member -> member + by).filter(n -> n >= 0 && n < 1024).forEach(shifted::set);
        sets[set] = shifted;
        return shifted.cardinality();
    }

    int sieve(int set, int below) {
        at(set);
        argument(below >= 0 && below <= 1024);
        sets[set] = new BitSet();
        for (int number = 0; number < below; number++) {
            if (java.math.BigInteger.valueOf(number).isProbablePrime(50)) {
                sets[set].set(number);
            }
        }
        return sets[set].cardinality();
    }

    int loadWords(int set, long first, long second, long third) {
        at(set);
        sets[set] = BitSet.valueOf(new long[] {first, second, third});
        return sets[set].length();
    }

    int loadTape(int set) {
        at(set);
        if (tape.length() > 128) {
            throw new IllegalStateException();
        }
        sets[set] = BitSet.valueOf(tape.toString().getBytes(java.nio.charset.StandardCharsets.ISO_8859_1));
        tape.setLength(0);
        return sets[set].length();
    }

    int byteAt(int set, int place) {
        byte[] bytes = at(set).toByteArray();
        if (place < 0 || place >= bytes.length) {
            throw new IndexOutOfBoundsException();
        }
        return bytes[place] & 255;
    }

    long wordAt(int set, int place) {
        long[] words = at(set).toLongArray();
        if (place < 0 || place >= words.length) {
            throw new IndexOutOfBoundsException();
        }
        return words[place];
    }

    int runs(int set) {
        BitSet after = new BitSet();
        at(set).stream().forEach(member -> after.set(member + 1));
        BitSet starts = (BitSet) sets[set].clone();
        starts.andNot(after);
        return starts.cardinality();
    }

    int longestRun(int set) {
        int best = -1;
        int longest = 0;
        for (int start = at(set).nextSetBit(0); start >= 0;) {
            int end = sets[set].nextClearBit(start);
            if (end - start > longest) {
                longest = end - start;
                best = start;
            }
            start = sets[set].nextSetBit(end);
        }
        return best;
    }

    BitSet common(int set, int other) {
        BitSet common = (BitSet) at(set).clone();
        common.and(at(other));
        return common;
    }

    int writtenAt(int index) {
        if (index < 0 || index >= written.length()) {
            throw new IndexOutOfBoundsException();
        }
        return written.charAt(index);
    }
}
