import java.math.BigInteger;
import java.util.BitSet;

/** The sentences of the sections 1, 2, 3 and 5. */
final class TermsEdges {
    private static final int MIN = Desks.MIN;
    private static final int MAX = Desks.MAX;

    private final Sentences sentences;

    interface OnRange {
        Object on(NumberSetDesk desk, int from, int to);
    }

    private record RangeCall(String name, OnRange call) {
    }

    /** Of set 3, which is full in Desks.different(), or of 7, which is empty there. */
    private static final RangeCall[] FILLING = {
        new RangeCall("addRange", (x, from, to) -> x.addRange(7, from, to)),
        new RangeCall("putRange to true", (x, from, to) -> x.putRange(7, from, to, true)),
        new RangeCall("putRange to false", (x, from, to) -> x.putRange(3, from, to, false)),
        new RangeCall("flipRange", (x, from, to) -> x.flipRange(7, from, to)),
    };
    private static final RangeCall[] OTHERS = {
        new RangeCall("removeRange", (x, from, to) -> x.removeRange(3, from, to)),
        new RangeCall("takePart", (x, from, to) -> x.takePart(7, 3, from, to)),
        new RangeCall("takePart of itself", (x, from, to) -> x.takePart(3, 3, from, to)),
        new RangeCall("countIn", (x, from, to) -> x.countIn(3, from, to)),
    };

    private TermsEdges(Sentences sentences) {
        this.sentences = sentences;
    }

    static void check(Sentences sentences) {
        TermsEdges edges = new TermsEdges(sentences);
        edges.manyCalls();
        edges.eightSets();
        edges.numbers();
        edges.setsOfTheirOwn();
        edges.numbersAbove();
        edges.membersAlone();
        edges.ranges();
        edges.noRanges();
        edges.secondNumber();
        edges.words();
        edges.neededWords();
        edges.bytes();
        edges.fingerprints();
        edges.firstListed();
        edges.changesNothing();
        edges.refusals();
        edges.notRefusals();
        edges.constant();
    }

    // ---- What it is.

    private void manyCalls() {
        sentences.says("What it is", "An object is used for at most 512 calls after it has been made; what later calls answer is free.");
        NumberSetDesk desk = new NumberSetDesk();
        desk.addRange(3, 0, 1024);
        int signs = Desks.all(0, 1023).length();
        for (int n = 2; n <= 512; n++) {
            sentences.due("write(3), call " + n, signs, desk.write(3));
        }
        NumberSetDesk filled = new NumberSetDesk();
        for (int n = 1; n <= 511; n++) {
            sentences.due("add(3, " + n + "), call " + n, true, filled.add(3, n));
        }
        sentences.due("count(3), call 512", 511, filled.count(3));
        NumberSetDesk scripted = new NumberSetDesk();
        for (int n = 0; n < 256; n++) {
            scripted.append(0x642b3530, 0x3b645e35, 0x3b642d30, 0x2e2e3133, 0x3b000000 + (n % 2 == 0 ? 0 : 0x610000));
            sentences.due("run(), call " + (2 * n + 2), n % 2 == 0 ? "3" : "throws IllegalArgumentException",
                    Sentences.answer(scripted, NumberSetDesk::run));
        }
        NumberSetDesk refused = new NumberSetDesk();
        for (int n = 1; n <= 511; n++) {
            sentences.answers("throws IndexOutOfBoundsException", "flipRange(3, 6, 5), call " + n, refused, x -> x.flipRange(3, 6, 5));
        }
        sentences.due("refusals(), call 512", 511, refused.refusals());
        NumberSetDesk renewed = new NumberSetDesk();
        for (int n = 1; n <= 512; n++) {
            sentences.due("renew(7, 1024), call " + n, 0, renewed.renew(7, 1024));
        }
    }

    // ---- Section 1.

    private void eightSets() {
        sentences.says("Section 1", "There are eight sets, 0 to 7.");
        NumberSetDesk desk = new NumberSetDesk();
        for (int set = 0; set < 8; set++) {
            int own = 100 + set;
            int its = set;
            sentences.answers(true, "add(" + set + ", " + own + ")", desk, x -> x.add(its, own));
        }
        for (int set = 0; set < 8; set++) {
            sentences.due("countIn(" + set + ", 100, 108)", 1, desk.countIn(set, 100, 108));
            sentences.due("has(" + set + ", " + (100 + set) + ")", true, desk.has(set, 100 + set));
        }
        sentences.refusesArgument("count(-1)", x -> x.count(-1));
        sentences.refusesArgument("count(8)", x -> x.count(8));
    }

    private void numbers() {
        sentences.says("Section 1", "The members of a set are numbers from 0 to 1023.");
        NumberSetDesk desk = new NumberSetDesk();
        sentences.answers(true, "add(3, 0)", desk, x -> x.add(3, 0));
        sentences.answers(true, "add(3, 1023)", desk, x -> x.add(3, 1023));
        sentences.due("add() leaves", "{0, 1023}", Desks.members(desk, 3));
        sentences.refusesNumber("add(3, -1)", x -> x.add(3, -1));
        sentences.refusesArgument("add(3, 1024)", x -> x.add(3, 1024));
        sentences.answers(1, "shift(3, 1), which shifts 1023 out", desk, x -> x.shift(3, 1));
        sentences.due("shift() leaves", "{1}", Desks.members(desk, 3));
        sentences.answers(1024, "addRange(4, 0, 1024)", desk, x -> x.addRange(4, 0, 1024));
        sentences.answers(1024, "flipRange(5, 0, 1024)", desk, x -> x.flipRange(5, 0, 1024));
        Checks.type(desk, "\u00ff".repeat(128));
        sentences.answers(1024, "loadTape(6) of 128 bytes 255", desk, x -> x.loadTape(6));
        for (int set = 4; set <= 6; set++) {
            sentences.due("a full set " + set, Desks.all(0, 1023), Desks.members(desk, set));
        }
        sentences.due("d+0;d+1023;", "{0, 1, 1023}", Desks.members(ranOn(desk, "d+0;d+1023;"), 3));
        sentences.due("d=[1023,0];", "{0, 1023}", Desks.members(ranOn(desk, "d=[1023,0];"), 3));
    }

    private static NumberSetDesk ranOn(NumberSetDesk desk, String script) {
        Desks.run(desk, script);
        return desk;
    }

    private void setsOfTheirOwn() {
        sentences.says("Section 1", "A set that is a copy, or a part, of another one is a set of its own.");
        Sentences.Call[] makings = {
            x -> x.copy(3, 0), x -> x.takePart(3, 0, 0, 1024), x -> x.takePart(3, 0, 0, MAX), x -> Desks.run(x, "d=a;")
        };
        Sentences.Call[] changesOf3 = {
            x -> x.add(3, 20), x -> x.remove(3, 5), x -> x.put(3, 5, false), x -> x.flip(3, 5), x -> x.addRange(3, 5, 70),
            x -> x.removeRange(3, 5, 70), x -> x.putRange(3, 5, 70, true), x -> x.flipRange(3, 5, 70), x -> x.removeAll(3),
            x -> x.renew(3, 5), x -> x.intersect(3, 1), x -> x.unite(3, 1), x -> x.differ(3, 1), x -> x.subtract(3, 1),
            x -> x.copy(3, 1), x -> x.takePart(3, 3, 1, 5), x -> x.shift(3, 1), x -> x.shift(3, -1), x -> x.sieve(3, 9),
            x -> x.loadWords(3, 7, 7, 7), x -> x.loadTape(3), x -> Desks.run(x, "d+50;d-1;d=[4];")
        };
        for (Sentences.Call making : makings) {
            for (Sentences.Call change : changesOf3) {
                NumberSetDesk desk = new NumberSetDesk();
                making.on(desk);
                sentences.due("the copy", Desks.all(0, 9), Desks.members(desk, 3));
                change.on(desk);
                sentences.due("0 after a change of its copy", Desks.all(0, 9), Desks.members(desk, 0));
                sentences.due("is the copy changed", false, Desks.all(0, 9).equals(Desks.members(desk, 3)));
            }
            NumberSetDesk desk = new NumberSetDesk();
            making.on(desk);
            desk.add(0, 1023);
            desk.removeRange(0, 0, 5);
            sentences.due("the copy after a change of 0", Desks.all(0, 9), Desks.members(desk, 3));
            desk.removeAll(0);
            sentences.due("the copy after removeAll(0)", Desks.all(0, 9), Desks.members(desk, 3));
            desk.renew(0, 0);
            sentences.due("the copy after renew(0, 0)", Desks.all(0, 9), Desks.members(desk, 3));
        }
    }

    private void numbersAbove() {
        sentences.says("Section 1", "Where a number is asked for that cannot be a member because it is greater than 1023, it is no member.");
        for (int above : new int[] {1024, 1025, 1087, 1088, 2047, 2048, 65536, 1 << 30, MAX - 1, MAX}) {
            NumberSetDesk desk = Desks.different();
            sentences.answers(false, "has(3, " + above + ")", desk, x -> x.has(3, above));
            sentences.answers(false, "remove(3, " + above + ")", desk, x -> x.remove(3, above));
            sentences.answers(-1, "next(3, " + above + ")", desk, x -> x.next(3, above));
            sentences.answers(above, "nextMissing(3, " + above + ")", desk, x -> x.nextMissing(3, above));
            sentences.answers(1023, "previous(3, " + above + ")", desk, x -> x.previous(3, above));
            sentences.answers(above, "previousMissing(3, " + above + ")", desk, x -> x.previousMissing(3, above));
            sentences.answers(0, "countIn(3, 1024, " + above + ")", desk, x -> x.countIn(3, 1024, above));
            sentences.answers(1, "countIn(3, 1023, " + above + ")", desk, x -> x.countIn(3, 1023, above));
            sentences.answers(1024, "removeRange(3, 1024, " + above + ")", desk, x -> x.removeRange(3, 1024, above));
            sentences.answers(0, "takePart(7, 3, 1024, " + above + ")", desk, x -> x.takePart(7, 3, 1024, above));
            sentences.due("these leave", Desks.all(0, 1023), Desks.members(desk, 3));
            sentences.due("refusals()", 0, desk.refusals());
        }
    }

    private void membersAlone() {
        sentences.says("Section 1", "All is told by the members alone; in what room a set keeps them does not show.");
        Sentences.Call[] waysTo5 = {
            x -> x.renew(3, 0) + (x.add(3, 5) ? 1 : 0),
            x -> x.renew(3, 1024) + (x.add(3, 5) ? 1 : 0),
            x -> x.add(3, 1023) && x.add(3, 5) && x.remove(3, 1023),
            x -> x.addRange(3, 0, 1024) + x.removeRange(3, 6, MAX) + x.removeRange(3, 0, 5),
            x -> x.addRange(3, 0, 1024) + x.flipRange(3, 0, 1024) + (x.flip(3, 5) ? 1 : 0),
            x -> x.add(3, 1023) && x.shift(3, -1018) == 1,
            x -> x.loadWords(3, 32, -1, -1) + x.intersect(3, 0),
            x -> x.unite(3, 2) + x.intersect(3, 0) + x.takePart(3, 3, 3, 6) + x.shift(3, 3) + x.removeRange(3, 0, 5),
            x -> x.sieve(3, 1024) + x.takePart(3, 3, 5, 6) + x.shift(3, 5),
            x -> x.add(6, 1023) && x.copy(3, 6) == 1 && x.subtract(3, 6) == 0 && x.add(3, 5),
            x -> Desks.run(x, "d=[1023,5];d-1023;"),
        };
        for (int way = 0; way < waysTo5.length; way++) {
            NumberSetDesk desk = new NumberSetDesk();
            waysTo5[way].on(desk);
            sentences.due("the members in way " + way, "{5}", Desks.members(desk, 3));
            sentences.due("wordCount(3)", 1, desk.wordCount(3));
            sentences.due("wordAt(3, 0)", 32, desk.wordAt(3, 0));
            sentences.answers("throws IndexOutOfBoundsException", "wordAt(3, 1)", desk, x -> x.wordAt(3, 1));
            sentences.due("byteCount(3)", 1, desk.byteCount(3));
            sentences.due("byteAt(3, 0)", 32, desk.byteAt(3, 0));
            sentences.answers("throws IndexOutOfBoundsException", "byteAt(3, 1)", desk, x -> x.byteAt(3, 1));
            sentences.due("fingerprint(3)", 1234 ^ 32, desk.fingerprint(3));
            sentences.due("length(3)", 6, desk.length(3));
            sentences.due("isRoomy(3)", true, desk.isRoomy(3));
            sentences.due("nextMissing(3, 5)", 6, desk.nextMissing(3, 5));
            sentences.due("previous(3, MAX)", 5, desk.previous(3, MAX));
            sentences.due("write(3)", 3, desk.write(3));
            desk.loadWords(4, 32, 0, 0);
            sentences.due("areEqual(3, 4)", true, desk.areEqual(3, 4));
            sentences.due("areEqual(4, 3)", true, desk.areEqual(4, 3));
        }
    }

    // ---- Section 2.

    private void ranges() {
        sentences.says("Section 2", "A range from a number to a number has the numbers that are not less than the first and less than the second; it is empty if both are the same.");
        int[][] ranges = {{0, 1}, {0, 64}, {1, 64}, {5, 6}, {5, 8}, {62, 66}, {63, 64}, {64, 65}, {64, 128}, {63, 129},
            {100, 1000}, {1022, 1023}, {1022, 1024}, {1023, 1024}, {1, 1024}, {0, 1023}, {0, 1024}};
        for (int[] range : ranges) {
            holdsRange(range[0], range[1]);
        }
        for (int same : new int[] {0, 1, 5, 63, 64, 65, 128, 1022, 1023, 1024}) {
            holdsRange(same, same);
        }
        for (int same : new int[] {1025, 1088, 2048, MAX - 1, MAX}) {
            NumberSetDesk desk = Desks.different();
            sentences.answers(1024, "removeRange(3, " + same + ", the same)", desk, x -> x.removeRange(3, same, same));
            sentences.answers(0, "countIn(3, " + same + ", the same)", desk, x -> x.countIn(3, same, same));
            sentences.answers(0, "takePart(6, 3, " + same + ", the same)", desk, x -> x.takePart(6, 3, same, same));
            sentences.due("takePart() leaves", "{}", Desks.members(desk, 6));
        }
    }

    private void holdsRange(int from, int to) {
        NumberSetDesk desk = Desks.different();
        String range = "(.., " + from + ", " + to + ")";
        BitSet members = new BitSet();
        members.set(from, to);
        BitSet missing = (BitSet) members.clone();
        missing.flip(0, 1024);
        sentences.answers(to - from, "countIn" + range, desk, x -> x.countIn(3, from, to));
        sentences.answers(to - from, "addRange" + range, desk, x -> x.addRange(7, from, to));
        sentences.due("addRange" + range + " leaves", members, Desks.members(desk, 7));
        sentences.answers(1024 - to + from, "flipRange" + range, desk, x -> x.flipRange(3, from, to));
        sentences.due("flipRange" + range + " leaves", missing, Desks.members(desk, 3));
        desk.addRange(3, 0, 1024);
        sentences.answers(1024 - to + from, "putRange to false" + range, desk, x -> x.putRange(3, from, to, false));
        sentences.due("putRange to false" + range + " leaves", missing, Desks.members(desk, 3));
        desk.addRange(3, 0, 1024);
        sentences.answers(1024 - to + from, "removeRange" + range, desk, x -> x.removeRange(3, from, to));
        sentences.due("removeRange" + range + " leaves", missing, Desks.members(desk, 3));
        desk.removeAll(3);
        sentences.answers(to - from, "putRange to true" + range, desk, x -> x.putRange(3, from, to, true));
        sentences.due("putRange to true" + range + " leaves", members, Desks.members(desk, 3));
        desk.addRange(3, 0, 1024);
        sentences.answers(to - from, "takePart" + range, desk, x -> x.takePart(6, 3, from, to));
        sentences.due("takePart" + range + " leaves", from == to ? "{}" : Desks.all(0, to - from - 1), Desks.members(desk, 6));
        sentences.due("refusals()", 0, desk.refusals());
        if (to <= 1023) {
            sentences.due("d=[];d+" + from + ".." + to + ";", members,
                    Desks.members(ranOn(desk, "d=[];d+" + from + ".." + to + ";"), 3));
            sentences.due("stoppedAt()", -1, desk.stoppedAt());
        }
    }

    private void noRanges() {
        sentences.says("Section 2", "It is none, and causes an IndexOutOfBoundsException, if one of both is below 0, or the first is greater than the second.");
        for (int[] range : Desks.NO_RANGES) {
            for (RangeCall one : FILLING) {
                sentences.refusesNumber(one.name + "(.., " + range[0] + ", " + range[1] + ")",
                        x -> one.call.on(x, range[0], range[1]));
            }
        }
        int[][] further = {{MAX, MAX - 1}, {2000, 1500}, {1026, 1025}, {-1, 1025}, {-1, MAX}, {MIN, MAX}};
        for (RangeCall one : OTHERS) {
            for (int[] range : Desks.NO_RANGES) {
                sentences.refusesNumber(one.name + "(.., " + range[0] + ", " + range[1] + ")",
                        x -> one.call.on(x, range[0], range[1]));
            }
            for (int[] range : further) {
                sentences.refusesNumber(one.name + "(.., " + range[0] + ", " + range[1] + ")",
                        x -> one.call.on(x, range[0], range[1]));
            }
        }
    }

    private void secondNumber() {
        sentences.says("Section 2", "Where numbers can become members by a range, its second number is at most 1024; elsewhere it can be any.");
        int[] outside = {1025, 1026, 1088, 2048, MAX - 1, MAX};
        for (RangeCall one : FILLING) {
            for (int from : new int[] {0, 1023, 1024}) {
                sentences.due(one.name + "(.., " + from + ", 1024) throws", false,
                        Sentences.answer(Desks.different(), x -> one.call.on(x, from, 1024)).startsWith("throws"));
            }
            for (int to : outside) {
                for (int from : new int[] {0, 1023, 1024, 1025, to}) {
                    sentences.refusesArgument(one.name + "(.., " + from + ", " + to + ")", x -> one.call.on(x, from, to));
                }
            }
        }
        for (int to : outside) {
            NumberSetDesk desk = Desks.different();
            sentences.answers(1024, "countIn(3, 0, " + to + ")", desk, x -> x.countIn(3, 0, to));
            sentences.answers(1, "countIn(3, 1023, " + to + ")", desk, x -> x.countIn(3, 1023, to));
            sentences.answers(1024, "takePart(6, 3, 0, " + to + ")", desk, x -> x.takePart(6, 3, 0, to));
            sentences.answers(959, "takePart(6, 3, 65, " + to + ")", desk, x -> x.takePart(6, 3, 65, to));
            sentences.due("takePart() leaves", Desks.all(0, 958), Desks.members(desk, 6));
            sentences.answers(1023, "removeRange(3, 1023, " + to + ")", desk, x -> x.removeRange(3, 1023, to));
            sentences.answers(5, "removeRange(3, 5, " + to + ")", desk, x -> x.removeRange(3, 5, to));
            sentences.answers(0, "removeRange(3, 0, " + to + ")", desk, x -> x.removeRange(3, 0, to));
            sentences.due("refusals()", 0, desk.refusals());
        }
    }

    // ---- Section 3.

    private void words() {
        sentences.says("Section 3", "A word is a long.");
        NumberSetDesk desk = new NumberSetDesk();
        desk.loadWords(3, Long.MIN_VALUE, Long.MAX_VALUE, -1);
        sentences.due("wordAt(3, 0)", Long.MIN_VALUE, desk.wordAt(3, 0));
        sentences.due("wordAt(3, 1)", Long.MAX_VALUE, desk.wordAt(3, 1));
        sentences.due("wordAt(3, 2)", -1, desk.wordAt(3, 2));
        sentences.says("Section 3", "Word k of a set (from 0 on) has its bit i (from 0, the lowest, to 63) set if 64 times k plus i is a member.");
        for (int k = 0; k < 16; k++) {
            NumberSetDesk one = new NumberSetDesk();
            for (int i = 0; i < 64; i++) {
                one.add(3, 64 * k + i);
                sentences.due("wordAt(3, " + k + ") of " + (64 * k + i), 1L << i, one.wordAt(3, k));
                sentences.due("wordAt(3, 0) of " + (64 * k + i), k == 0 ? 1L << i : 0, one.wordAt(3, 0));
                one.remove(3, 64 * k + i);
            }
            one.addRange(3, 64 * k, 64 * k + 64);
            sentences.due("wordAt(3, " + k + ") of 64 members", -1, one.wordAt(3, k));
        }
    }

    private void neededWords() {
        sentences.says("Section 3", "A set has as many words as are needed to tell its greatest member, and none without members.");
        for (int greatest = 0; greatest < 1024; greatest += greatest % 64 == 0 || greatest % 64 == 63 ? 1 : 62) {
            NumberSetDesk desk = new NumberSetDesk();
            desk.add(3, greatest);
            sentences.due("wordCount(3) of " + greatest, 1 + greatest / 64, desk.wordCount(3));
            int count = 1 + greatest / 64;
            sentences.answers("throws IndexOutOfBoundsException", "wordAt(3, " + count + ")", desk, x -> x.wordAt(3, count));
            sentences.due("is wordAt(3, " + (count - 1) + ") 0", false, desk.wordAt(3, count - 1) == 0);
            desk.addRange(3, 0, greatest);
            sentences.due("wordCount(3) of all up to " + greatest, count, desk.wordCount(3));
            desk.removeRange(3, 0, 1024);
            sentences.due("wordCount(3) without members", 0, desk.wordCount(3));
            sentences.answers("throws IndexOutOfBoundsException", "wordAt(3, 0)", desk, x -> x.wordAt(3, 0));
        }
    }

    private void bytes() {
        sentences.says("Section 3", "Likewise byte k of a set has its bit i (0 to 7) set if 8 times k plus i is a member.");
        for (int k = 0; k < 128; k++) {
            NumberSetDesk desk = new NumberSetDesk();
            for (int i = 0; i < 8; i++) {
                desk.add(3, 8 * k + i);
                sentences.due("byteAt(3, " + k + ") of " + (8 * k + i), 1 << i, desk.byteAt(3, k));
                sentences.due("byteAt(3, 0) of " + (8 * k + i), k == 0 ? 1 << i : 0, desk.byteAt(3, 0));
                sentences.due("byteCount(3) of " + (8 * k + i), k + 1, desk.byteCount(3));
                desk.remove(3, 8 * k + i);
            }
            desk.addRange(3, 8 * k, 8 * k + 8);
            sentences.due("byteAt(3, " + k + ") of 8 members", 255, desk.byteAt(3, k));
        }
        sentences.due("byteCount(3) without members", 0, new NumberSetDesk().byteCount(3));
    }

    private void fingerprints() {
        sentences.says("Section 3", "The fingerprint is found like this: h, a long, is 1234 at first; for each word, ..");
        NumberSetDesk desk = new NumberSetDesk();
        sentences.due("fingerprint(3) without members", 1234, desk.fingerprint(3));
        for (int k = 0; k < 16; k++) {
            desk.renew(3, 0);
            desk.add(3, 64 * k);
            sentences.due("fingerprint(3) of bit 0 of word " + k, 1234 ^ k + 1, desk.fingerprint(3));
            desk.shift(3, 32);
            sentences.due("fingerprint(3) of bit 32 of word " + k, 1234 ^ k + 1, desk.fingerprint(3));
            desk.shift(3, 31);
            // beyond bit 63 the product wraps: of k + 1 only the lowest bit is left
            sentences.due("fingerprint(3) of bit 63 of word " + k, k % 2 == 0 ? 1234 ^ MIN : 1234, desk.fingerprint(3));
            desk.addRange(3, 64 * k, 64 * k + 64);
            sentences.due("fingerprint(3) of all bits of word " + k, ~(1234 ^ -(k + 1)), desk.fingerprint(3));
        }
        desk.loadWords(3, 6, 5, 3);
        sentences.due("fingerprint(3) of the words 6, 5, 3", 1234 ^ 6 ^ 10 ^ 9, desk.fingerprint(3));
        long[] words = {0x9e3779b97f4a7c15L, 0xc2b2ae3d27d4eb4fL, 0x165667b19e3779f9L};
        desk.loadWords(3, words[0], words[1], words[2]);
        sentences.due("fingerprint(3) of three words", fingerprintOf(words), desk.fingerprint(3));
        desk.sieve(3, 1024);
        long[] primes = new long[16];
        for (int k = 0; k < 16; k++) {
            primes[k] = desk.wordAt(3, k);
        }
        sentences.due("fingerprint(3) of the primes", fingerprintOf(primes), desk.fingerprint(3));
        desk.addRange(3, 0, 1024);
        java.util.Arrays.fill(primes, -1);
        sentences.due("fingerprint(3) of all", fingerprintOf(primes), desk.fingerprint(3));
    }

    /** By numbers without a bound, cut off as the document says. */
    private static int fingerprintOf(long... words) {
        BigInteger lower = BigInteger.ONE.shiftLeft(64).subtract(BigInteger.ONE);
        BigInteger h = BigInteger.valueOf(1234);
        for (int k = words.length - 1; k >= 0; k--) {
            h = h.xor(BigInteger.valueOf(words[k]).multiply(BigInteger.valueOf(k + 1)).and(lower));
        }
        return h.xor(h.shiftRight(32)).intValue();
    }

    // ---- Section 5.

    /** GeneralEdges holds the same of all calls with a set that is not there. */
    private void firstListed() {
        sentences.says("Section 5", "If several exceptions apply to a call, the one that is listed first is thrown.");
        int[][] bothWrong = {{-1, 1025}, {MIN, 1025}, {-1, MAX}, {MIN, MAX}, {1026, 1025}, {2000, 1500}, {MAX, 1025}, {MAX, MAX - 1}};
        for (int[] range : bothWrong) {
            for (RangeCall one : FILLING) {
                sentences.refusesArgument(one.name + "(.., " + range[0] + ", " + range[1] + ")",
                        x -> one.call.on(x, range[0], range[1]));
            }
        }
        for (int set : Desks.NO_SETS) {
            NumberSetDesk desk = new NumberSetDesk();
            Checks.type(desk, "x".repeat(129));
            sentences.answers("throws IllegalArgumentException", "loadTape(" + set + ") of 129", desk, x -> x.loadTape(set));
            sentences.due("clearTape()", 129, desk.clearTape());
        }
    }

    private void changesNothing() {
        sentences.says("Section 5", "A call that throws an exception changes nothing but the number of refusals, and except that run() empties the tape, sets the error position, and makes stoppedAt() NONE.");
        sentences.refusesNumber("add(3, -1)", x -> x.add(3, -1));
        sentences.refusesNumber("flipRange(3, 0, -1)", x -> x.flipRange(3, 0, -1));
        sentences.refusesNumber("takePart(3, 1, 5, 4)", x -> x.takePart(3, 1, 5, 4));
        sentences.refusesArgument("shift(3, 1024)", x -> x.shift(3, 1024));
        sentences.refusesPlace("writtenAt(-1)", x -> x.writtenAt(-1));
        sentences.refuses("IllegalArgumentException", 1, "renew(3, -1)", x -> x.renew(3, -1));

        NumberSetDesk full = new NumberSetDesk();
        Checks.type(full, "d+5;" + " ".repeat(124) + "d+6;");
        sentences.answers("throws IllegalStateException", "loadTape(0) of 132", full, x -> x.loadTape(0));
        sentences.due("loadTape() leaves", Desks.all(0, 9), Desks.members(full, 0));
        Checks.type(full, " ".repeat(268));
        sentences.answers("throws IllegalStateException", "append() of 2 to 400", full, x -> x.append(0x6431, 0, 0, 0, 0));
        sentences.answers(2, "run() of what stood on the tape", full, NumberSetDesk::run);
        sentences.due("which leaves", "{5, 6}", Desks.members(full, 3));

        for (boolean isStopped : new boolean[] {false, true}) {
            NumberSetDesk desk = Desks.busy(isStopped);
            NumberSetDesk untouched = Desks.busy(isStopped);
            Checks.type(desk, "a+700;a+");
            sentences.answers("throws IllegalArgumentException", "run() of an error", desk, NumberSetDesk::run);
            sentences.due("it empties the tape", 0, desk.clearTape());
            sentences.due("it sets the error position", 12, desk.errorPosition());
            sentences.due("it makes stoppedAt() NONE", -1, desk.stoppedAt());
            sentences.due("it is no refusal", untouched.refusals(), desk.refusals());
            sentences.due("it leaves the text", Checks.writtenOn(untouched), Checks.writtenOn(desk));
            sentences.due("it leaves the sets", Desks.othersThan(untouched, -1), Desks.othersThan(desk, -1));
        }
    }

    private static final String REFUSAL = "A refusal is: a call that throws an IndexOutOfBoundsException because of an index or a range of numbers ..";

    private void refusals() {
        sentences.says("Section 5", REFUSAL);
        for (int index : new int[] {-1, MIN}) {
            sentences.refusesNumber("add", x -> x.add(3, index));
            sentences.refusesNumber("remove", x -> x.remove(3, index));
            sentences.refusesNumber("put", x -> x.put(3, index, true));
            sentences.refusesNumber("put", x -> x.put(3, index, false));
            sentences.refusesNumber("flip", x -> x.flip(3, index));
            sentences.refusesNumber("has", x -> x.has(3, index));
            sentences.refusesNumber("next", x -> x.next(3, index));
            sentences.refusesNumber("nextMissing", x -> x.nextMissing(3, index));
            sentences.refuses("IllegalArgumentException", 1, "renew", x -> x.renew(3, index));
        }
        for (int index : new int[] {-2, MIN}) {
            sentences.refusesNumber("previous", x -> x.previous(3, index));
            sentences.refusesNumber("previousMissing", x -> x.previousMissing(3, index));
        }
        for (RangeCall one : FILLING) {
            sentences.refusesNumber(one.name + "(.., 6, 5)", x -> one.call.on(x, 6, 5));
            sentences.refusesNumber(one.name + "(.., -1, 5)", x -> one.call.on(x, -1, 5));
        }
        for (RangeCall one : OTHERS) {
            sentences.refusesNumber(one.name + "(.., 6, 5)", x -> one.call.on(x, 6, 5));
            sentences.refusesNumber(one.name + "(.., -1, 5)", x -> one.call.on(x, -1, 5));
        }
        NumberSetDesk desk = new NumberSetDesk();
        for (int stops = 1; stops <= 3; stops++) {
            sentences.answers(1, "run() that stops", desk, x -> Desks.run(x, "d+5;d+6..5;d+7;d+8..7;"));
            sentences.due("refusals() after " + stops + " stops", stops, desk.refusals());
        }
    }

    private void notRefusals() {
        sentences.says("Section 5", REFUSAL);
        for (int place : new int[] {-1, MIN, MAX, 9999}) {
            sentences.refusesPlace("wordAt", x -> x.wordAt(3, place));
            sentences.refusesPlace("byteAt", x -> x.byteAt(3, place));
            sentences.refusesPlace("writtenAt", x -> x.writtenAt(place));
        }
        for (int set : Desks.NO_SETS) {
            sentences.refusesArgument("renew(" + set + ", -1)", x -> x.renew(set, -1));
            sentences.refusesArgument("add(" + set + ", -1)", x -> x.add(set, -1));
            sentences.refusesArgument("countIn(" + set + ", 6, 5)", x -> x.countIn(set, 6, 5));
            sentences.refusesArgument("takePart(" + set + ", 1, 6, 5)", x -> x.takePart(set, 1, 6, 5));
            sentences.refusesArgument("takePart(1, " + set + ", 6, 5)", x -> x.takePart(1, set, 6, 5));
        }
        sentences.refusesArgument("renew(3, 1025)", x -> x.renew(3, 1025));
        sentences.refusesArgument("add(3, 1024)", x -> x.add(3, 1024));
        sentences.refusesArgument("put(3, 1024, false)", x -> x.put(3, 1024, false));
        sentences.refusesArgument("flip(3, MAX)", x -> x.flip(3, MAX));
        sentences.refusesArgument("addRange(3, -1, 1025)", x -> x.addRange(3, -1, 1025));
        sentences.refusesArgument("shift(3, -1024)", x -> x.shift(3, -1024));
        sentences.refusesArgument("sieve(3, -1)", x -> x.sieve(3, -1));
        sentences.refusesArgument("share(3, 0)", x -> x.share(3, 0));
        NumberSetDesk desk = new NumberSetDesk();
        sentences.answers(-1, "memberAt(3, -1)", desk, x -> x.memberAt(3, -1));
        sentences.answers(-1, "previous(3, -1)", desk, x -> x.previous(3, -1));
        sentences.answers(-1, "previousMissing(3, -1)", desk, x -> x.previousMissing(3, -1));
        sentences.answers(false, "remove(3, MAX)", desk, x -> x.remove(3, MAX));
        sentences.answers("throws IllegalArgumentException", "run()", desk, x -> Desks.run(x, "d+6..5;d"));
        sentences.answers("throws IllegalStateException", "loadTape(3) of 129", desk, x -> Checks.type(x, "x".repeat(129)) + x.loadTape(3));
        sentences.answers("throws IllegalStateException", "append() of 401", desk, x -> Checks.type(x, "x".repeat(272)));
        sentences.due("refusals() after none", 0, desk.refusals());
    }

    private void constant() {
        sentences.says("Section 5", "The constants: `NONE = -1`: The absence of a number.");
        sentences.due("NONE", -1, NumberSetDesk.NONE);
    }
}
