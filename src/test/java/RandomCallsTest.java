import java.util.BitSet;
import java.util.Random;
import java.util.concurrent.Callable;

/** Calls with arguments by a fixed row of random numbers, each held against the desk upon java.util.BitSet. */
public final class RandomCallsTest {
    private static final int DESKS = 2000;
    /** Each is followed by a refusals(), and some ask more than once: a desk is used for 512 calls at most. */
    private static final int CALLS = 200;
    private static final int SCRIPTS = 10000;
    private static final int[] EDGES = {
        Integer.MIN_VALUE, -1025, -1024, -1023, -64, -2, -1, 0, 1, 2, 7, 8, 9, 63, 64, 65, 127, 128, 129, 191, 192,
        400, 512, 959, 960, 1022, 1023, 1024, 1025, 2048, 1 << 30, Integer.MAX_VALUE - 1, Integer.MAX_VALUE
    };
    private static final String[] TEXTS = {
        "a", "b", "c", "d", "h", "i", "+", "-", "^", "&", "|", "~", "!", "=", "[", "]", ",", ";", "..", ".", " ", "\n",
        "0", "5", "12", "63", "64", "1023", "1024", "00001", "0007", "a+1;", "b-2..7;", "c^60..70;", "d=[1,2,3];",
        "a&b;", "b|c;", "c~d;", "d!a;", "e=a;", "f=[];", "g+900..1023;", "h+7..6;", "\t", "\u0080", "\u00ff"
    };

    private final Checks checks = new Checks("RandomCallsTest");
    private final Random random = new Random(20261119L);
    private NumberSetDesk desk;
    private Reference reference;
    private int set;
    private int other;
    private int from;
    private int to;
    private int place;
    private long first;
    private boolean isMember;

    public static void main(String[] args) {
        new RandomCallsTest().compare();
    }

    private void compare() {
        for (int n = 0; n < DESKS; n++) {
            desk = new NumberSetDesk();
            reference = new Reference();
            for (int calls = 0; calls < CALLS; calls++) {
                chooseArguments();
                int kind = random.nextInt(64);
                String call = "desk " + n + ", call " + calls + " of kind " + kind + " (" + set + ", " + other + ", "
                        + from + ", " + to + ", " + place + ", " + first + ", " + isMember + ")";
                same(call, kind);
            }
        }
        for (int n = 0; n < SCRIPTS; n++) {
            compareScript();
        }
        checks.end();
    }

    private void compareScript() {
        desk = new NumberSetDesk();
        reference = new Reference();
        String script = script();
        Checks.type(desk, script);
        reference.tape.append(script);
        checks.due("run() of " + script, answer(reference::run), answer(desk::run));
        checks.due("errorPosition() of " + script, reference.errorPosition, desk.errorPosition());
        checks.due("stoppedAt() of " + script, reference.stoppedAt, desk.stoppedAt());
        checks.due("refusals() of " + script, reference.refusals, desk.refusals());
        for (set = 0; set < 8; set++) {
            checks.due("set " + set + " after " + script, reference.sets[set].toString(), membersOf(desk));
        }
    }

    /** Statements of the grammar, in every second text with a part that is put in or taken out somewhere. */
    private String script() {
        StringBuilder script = new StringBuilder();
        int statements = random.nextInt(12);
        for (int n = 0; n < statements; n++) {
            script.append((char) ('a' + random.nextInt(8))).append(blank()).append(action()).append(blank()).append(';');
            script.append(blank());
        }
        if (random.nextInt(2) == 0 && script.length() > 0) {
            int at = random.nextInt(script.length());
            if (random.nextInt(3) == 0) {
                script.deleteCharAt(at);
            } else {
                script.insert(at, TEXTS[random.nextInt(TEXTS.length)]);
            }
        }
        script.setLength(Math.min(script.length(), 400));
        return script.toString();
    }

    private String action() {
        switch (random.nextInt(4)) {
            case 0:
                return "+-^".charAt(random.nextInt(3)) + blank() + random.nextInt(1024);
            case 1:
                return "+-^".charAt(random.nextInt(3)) + blank() + random.nextInt(300) + blank() + ".." + blank()
                        + (200 + random.nextInt(824));
            case 2:
                return "&|~!=".charAt(random.nextInt(5)) + blank() + (char) ('a' + random.nextInt(8));
            default:
                return "=" + blank() + "[" + list() + blank() + "]";
        }
    }

    private String list() {
        StringBuilder list = new StringBuilder();
        int numbers = random.nextInt(5);
        for (int n = 0; n < numbers; n++) {
            list.append(n == 0 ? "" : ",").append(blank()).append(random.nextInt(1024)).append(blank());
        }
        return list.toString();
    }

    private String blank() {
        return random.nextInt(6) != 0 ? "" : random.nextBoolean() ? " " : "\n ";
    }

    private void same(String call, int kind) {
        String want = answer(() -> due(kind));
        String got = answer(() -> given(kind));
        checks.due(call, want, got);
        checks.due(call + " then refusals()", reference.refusals, desk.refusals());
    }

    private static String answer(Callable<Object> call) {
        try {
            return String.valueOf(call.call());
        } catch (Exception e) {
            return e.getClass().getName();
        }
    }

    private void chooseArguments() {
        set = random.nextInt(40) == 0 ? random.nextInt(2) * 9 - 1 : random.nextInt(8);
        other = random.nextInt(40) == 0 ? random.nextInt(2) * 9 - 1 : random.nextInt(8);
        from = number();
        to = number();
        if (from > to && random.nextInt(4) != 0) {
            int swapped = from;
            from = to;
            to = swapped;
        }
        place = random.nextInt(3) == 0 ? number() : random.nextInt(20);
        first = random.nextInt(4) == 0 ? 0L : random.nextLong() & random.nextLong();
        isMember = random.nextBoolean();
    }

    private int number() {
        switch (random.nextInt(10)) {
            case 0:
                return EDGES[random.nextInt(EDGES.length)];
            case 1:
                return 64 * random.nextInt(17) + random.nextInt(3) - 1;
            default:
                return random.nextInt(1024);
        }
    }

    private String text() {
        StringBuilder text = new StringBuilder();
        boolean isSound = random.nextInt(2) == 0;
        int parts = random.nextInt(5) + 1;
        for (int n = 0; n < parts && text.length() < 20; n++) {
            text.append(isSound ? TEXTS[31 + random.nextInt(12)] : TEXTS[random.nextInt(TEXTS.length)]);
        }
        text.setLength(Math.min(text.length(), 20));
        if (isSound) {
            // ends behind the last whole statement
            text.setLength(text.lastIndexOf(";") + 1);
        }
        return text.toString();
    }

    private int[] fives(String text) {
        int[] fives = new int[5];
        for (int index = 0; index < text.length(); index++) {
            fives[index / 4] |= text.charAt(index) << 24 - 8 * (index % 4);
        }
        return fives;
    }

    private int[] appended = new int[5];

    private Object due(int kind) {
        Reference r = reference;
        switch (kind) {
            case 0: case 58: case 59: case 60:
                appended = random.nextInt(12) == 0 ? random.ints(5).toArray() : fives(text());
                return r.append(appended);
            case 1: return random.nextInt(9) == 0 ? r.clearTape() : r.tape.length();
            case 2: case 61: return r.run();
            case 3: return r.errorPosition;
            case 4: return r.stoppedAt;
            case 5: { BitSet s = r.filling(set, from); boolean was = s.get(from); s.set(from); return !was; }
            case 6: { BitSet s = r.asking(set, from, 0); boolean was = s.get(from); s.clear(from); return was; }
            case 7: { BitSet s = r.filling(set, from); boolean was = s.get(from); s.set(from, isMember); return was; }
            case 8: { BitSet s = r.filling(set, from); s.flip(from); return s.get(from); }
            case 9: { BitSet s = r.filling(set, from, to); s.set(from, to); return s.cardinality(); }
            case 10: { BitSet s = r.askingIn(set, from, to); s.clear(from, to); return s.cardinality(); }
            case 11: { BitSet s = r.filling(set, from, to); s.set(from, to, isMember); return s.cardinality(); }
            case 12: { BitSet s = r.filling(set, from, to); s.flip(from, to); return s.cardinality(); }
            case 13: { int before = r.at(set).cardinality(); r.at(set).clear(); return before; }
            case 14: return r.renew(set, from);
            case 15: { r.at(set).and(r.at(other)); return r.at(set).cardinality(); }
            case 16: { r.at(set).or(r.at(other)); return r.at(set).cardinality(); }
            case 17: { r.at(set).xor(r.at(other)); return r.at(set).cardinality(); }
            case 18: { r.at(set).andNot(r.at(other)); return r.at(set).cardinality(); }
            case 19: { r.at(set); r.at(other); r.sets[set] = (BitSet) r.at(other).clone(); return r.at(set).cardinality(); }
            case 20: return r.takePart(set, other, from, to);
            case 21: return r.shift(set, isMember ? from : -from);
            case 22: return r.sieve(set, from);
            case 23: return r.loadWords(set, first, first * 31, isMember ? 0 : first * 17);
            case 24: return r.loadTape(set);
            case 25: return r.at(set).toLongArray().length;
            case 26: return r.wordAt(set, place);
            case 27: return r.at(set).toByteArray().length;
            case 28: return r.byteAt(set, place);
            case 29: return r.at(set).hashCode();
            default: return dueAnswer(kind);
        }
    }

    private Object dueAnswer(int kind) {
        Reference r = reference;
        switch (kind) {
            case 30: return r.asking(set, from, 0).get(from);
            case 31: return r.at(set).cardinality();
            case 32: return r.askingIn(set, from, to).get(from, to).cardinality();
            case 33: return r.at(set).length();
            case 34: return r.at(set).isEmpty();
            case 35: return r.at(set).size() >= r.at(set).length();
            case 36: return r.asking(set, from, 0).nextSetBit(from);
            case 37: return r.asking(set, from, 0).nextClearBit(from);
            case 38: return r.asking(set, from, -1).previousSetBit(from);
            case 39: return r.asking(set, from, -1).previousClearBit(from);
            case 40: return r.at(set).stream().skip(Math.max(place, 0)).filter(x -> place >= 0).findFirst().orElse(-1);
            case 41: return r.at(set).stream().asLongStream().sum();
            case 42: return r.runs(set);
            case 43: return r.longestRun(set);
            case 44: return r.at(set).equals(r.at(other));
            case 45: return r.at(set).intersects(r.at(other));
            case 46: return r.common(set, other).equals(r.at(set));
            case 47: return r.at(set).cardinality() + r.at(other).cardinality() - r.common(set, other).cardinality();
            case 48: return r.at(set).cardinality() + r.at(other).cardinality() - 2 * r.common(set, other).cardinality();
            case 49: return r.common(set, other).nextSetBit(0);
            case 50: case 62: { r.written = r.at(set).toString(); return r.written.length(); }
            case 51: case 63: return r.writtenAt(place);
            case 52: return r.refusals;
            case 53: { double sum = 0; for (BitSet s : r.sets) { sum += s.cardinality(); } return sum / 8; }
            case 54: {
                r.at(set);
                r.argument(from >= 1 && from <= 1024);
                return (float) r.at(set).get(0, from).cardinality() / (float) from;
            }
            case 55: return 0;
            case 56: return (r.at(set) + ", " + r.tape.length());
            default: return r.errorPosition + " " + r.stoppedAt;
        }
    }

    private Object given(int kind) {
        NumberSetDesk x = desk;
        switch (kind) {
            case 0: case 58: case 59: case 60:
                return x.append(appended[0], appended[1], appended[2], appended[3], appended[4]);
            case 1: return reference.tape.length() == 0 ? x.clearTape() : x.append(0, 0, 0, 0, 0);
            case 2: case 61: return x.run();
            case 3: return x.errorPosition();
            case 4: return x.stoppedAt();
            case 5: return x.add(set, from);
            case 6: return x.remove(set, from);
            case 7: return x.put(set, from, isMember);
            case 8: return x.flip(set, from);
            case 9: return x.addRange(set, from, to);
            case 10: return x.removeRange(set, from, to);
            case 11: return x.putRange(set, from, to, isMember);
            case 12: return x.flipRange(set, from, to);
            case 13: return x.removeAll(set);
            case 14: return x.renew(set, from);
            case 15: return x.intersect(set, other);
            case 16: return x.unite(set, other);
            case 17: return x.differ(set, other);
            case 18: return x.subtract(set, other);
            case 19: return x.copy(set, other);
            case 20: return x.takePart(set, other, from, to);
            case 21: return x.shift(set, isMember ? from : -from);
            case 22: return x.sieve(set, from);
            case 23: return x.loadWords(set, first, first * 31, isMember ? 0 : first * 17);
            case 24: return x.loadTape(set);
            case 25: return x.wordCount(set);
            case 26: return x.wordAt(set, place);
            case 27: return x.byteCount(set);
            case 28: return x.byteAt(set, place);
            case 29: return x.fingerprint(set);
            default: return givenAnswer(kind);
        }
    }

    private Object givenAnswer(int kind) {
        NumberSetDesk x = desk;
        switch (kind) {
            case 30: return x.has(set, from);
            case 31: return x.count(set);
            case 32: return x.countIn(set, from, to);
            case 33: return x.length(set);
            case 34: return x.isEmpty(set);
            case 35: return x.isRoomy(set);
            case 36: return x.next(set, from);
            case 37: return x.nextMissing(set, from);
            case 38: return x.previous(set, from);
            case 39: return x.previousMissing(set, from);
            case 40: return x.memberAt(set, place);
            case 41: return x.sum(set);
            case 42: return x.runs(set);
            case 43: return x.longestRun(set);
            case 44: return x.areEqual(set, other);
            case 45: return x.meet(set, other);
            case 46: return x.isWithin(set, other);
            case 47: return x.unionCount(set, other);
            case 48: return x.distance(set, other);
            case 49: return x.firstCommon(set, other);
            case 50: case 62: return x.write(set);
            case 51: case 63: return x.writtenAt(place);
            case 52: return x.refusals();
            case 53: return x.meanCount();
            case 54: return x.share(set, from);
            case 55: return x.errors();
            case 56: return membersOf(x) + ", " + x.append(0, 0, 0, 0, 0);
            default: return x.errorPosition() + " " + x.stoppedAt();
        }
    }

    private String membersOf(NumberSetDesk x) {
        long[] words = new long[x.wordCount(set)];
        for (int k = 0; k < words.length; k++) {
            words[k] = x.wordAt(set, k);
        }
        return BitSet.valueOf(words).toString();
    }
}
