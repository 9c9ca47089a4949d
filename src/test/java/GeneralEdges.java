/** What the document says of every call with a set, with another set, and of those that answer how many members are left. */
final class GeneralEdges {
    private static final int MAX = Desks.MAX;
    private static final String NO_SET = "Throws `IllegalArgumentException` if there is no such set";
    private static final String NO_INDEX = NO_SET + ", or index is above 1023";
    private static final String NO_END = NO_SET + ", or to is above 1024";

    private final Sentences sentences;

    interface OnSet {
        Object on(NumberSetDesk desk, int set);
    }

    interface OnPair {
        Object on(NumberSetDesk desk, int set, int other);
    }

    /** A call that does its work, and the same with further arguments for which it throws something. */
    private record SetCall(int promise, String name, String throwing, OnSet call, OnSet... furtherWrong) {
    }

    private record PairCall(int promise, String name, OnPair call, OnPair... furtherWrong) {
    }

    private static final SetCall[] SET_CALLS = {
        new SetCall(7, "add", NO_INDEX, (x, s) -> x.add(s, 900), (x, s) -> x.add(s, -1), (x, s) -> x.add(s, 1024)),
        new SetCall(8, "remove", NO_SET, (x, s) -> x.remove(s, 5), (x, s) -> x.remove(s, -1)),
        new SetCall(9, "put", NO_INDEX, (x, s) -> x.put(s, 900, true),
            (x, s) -> x.put(s, -1, true), (x, s) -> x.put(s, -1, false), (x, s) -> x.put(s, 1024, false)),
        new SetCall(10, "flip", NO_INDEX, (x, s) -> x.flip(s, 5), (x, s) -> x.flip(s, -1), (x, s) -> x.flip(s, 1024)),
        new SetCall(11, "addRange", NO_END, (x, s) -> x.addRange(s, 5, 70),
            (x, s) -> x.addRange(s, 6, 5), (x, s) -> x.addRange(s, 0, 1025)),
        new SetCall(12, "removeRange", NO_SET, (x, s) -> x.removeRange(s, 5, 70), (x, s) -> x.removeRange(s, 6, 5)),
        new SetCall(13, "putRange", NO_END, (x, s) -> x.putRange(s, 5, 70, true),
            (x, s) -> x.putRange(s, 6, 5, true), (x, s) -> x.putRange(s, 0, 1025, false)),
        new SetCall(14, "flipRange", NO_END, (x, s) -> x.flipRange(s, 5, 70),
            (x, s) -> x.flipRange(s, 6, 5), (x, s) -> x.flipRange(s, 0, 1025)),
        new SetCall(15, "removeAll", NO_SET, (x, s) -> x.removeAll(s)),
        new SetCall(16, "renew", NO_SET + ", or numbers is out of range", (x, s) -> x.renew(s, 5),
            (x, s) -> x.renew(s, -1), (x, s) -> x.renew(s, 1025)),
        new SetCall(17, "intersect", NO_SET, (x, s) -> x.intersect(s, 2)),
        new SetCall(18, "unite", NO_SET, (x, s) -> x.unite(s, 2)),
        new SetCall(19, "differ", NO_SET, (x, s) -> x.differ(s, 2)),
        new SetCall(20, "subtract", NO_SET, (x, s) -> x.subtract(s, 2)),
        new SetCall(21, "copy", NO_SET, (x, s) -> x.copy(s, 2)),
        new SetCall(22, "takePart", NO_SET, (x, s) -> x.takePart(s, 2, 5, 70),
            (x, s) -> x.takePart(s, 2, 6, 5), (x, s) -> x.takePart(s, 2, -1, 5)),
        new SetCall(23, "shift", NO_SET + ", or by is out of range", (x, s) -> x.shift(s, 3), (x, s) -> x.shift(s, 1024)),
        new SetCall(24, "sieve", NO_SET + ", or below is out of range", (x, s) -> x.sieve(s, 50), (x, s) -> x.sieve(s, -1)),
        new SetCall(25, "loadWords", NO_SET, (x, s) -> x.loadWords(s, 5, 6, 7)),
        new SetCall(26, "loadTape", NO_SET, (x, s) -> x.loadTape(s)),
        new SetCall(27, "wordCount", NO_SET, (x, s) -> x.wordCount(s)),
        new SetCall(28, "wordAt", NO_SET, (x, s) -> x.wordCount(s) == 0 ? 0L : x.wordAt(s, 0),
            (x, s) -> x.wordAt(s, 0), (x, s) -> x.wordAt(s, -1), (x, s) -> x.wordAt(s, 16)),
        new SetCall(29, "byteCount", NO_SET, (x, s) -> x.byteCount(s)),
        new SetCall(30, "byteAt", NO_SET, (x, s) -> x.byteCount(s) == 0 ? 0 : x.byteAt(s, 0),
            (x, s) -> x.byteAt(s, 0), (x, s) -> x.byteAt(s, -1), (x, s) -> x.byteAt(s, 128)),
        new SetCall(31, "fingerprint", NO_SET, (x, s) -> x.fingerprint(s)),
        new SetCall(32, "has", NO_SET, (x, s) -> x.has(s, 64), (x, s) -> x.has(s, -1), (x, s) -> x.has(s, 1024)),
        new SetCall(33, "count", NO_SET, (x, s) -> x.count(s)),
        new SetCall(34, "countIn", NO_SET, (x, s) -> x.countIn(s, 5, 70), (x, s) -> x.countIn(s, 6, 5)),
        new SetCall(35, "length", NO_SET, (x, s) -> x.length(s)),
        new SetCall(36, "isEmpty", NO_SET, (x, s) -> x.isEmpty(s)),
        new SetCall(37, "isRoomy", NO_SET, (x, s) -> x.isRoomy(s)),
        new SetCall(38, "next", NO_SET, (x, s) -> x.next(s, 7), (x, s) -> x.next(s, -1)),
        new SetCall(39, "nextMissing", NO_SET, (x, s) -> x.nextMissing(s, 8), (x, s) -> x.nextMissing(s, -1)),
        new SetCall(40, "previous", NO_SET, (x, s) -> x.previous(s, 501),
            (x, s) -> x.previous(s, -1), (x, s) -> x.previous(s, -2)),
        new SetCall(41, "previousMissing", NO_SET, (x, s) -> x.previousMissing(s, 8),
            (x, s) -> x.previousMissing(s, -1), (x, s) -> x.previousMissing(s, -2)),
        new SetCall(42, "memberAt", NO_SET, (x, s) -> x.memberAt(s, 1), (x, s) -> x.memberAt(s, -1)),
        new SetCall(43, "sum", NO_SET, (x, s) -> x.sum(s)),
        new SetCall(44, "runs", NO_SET, (x, s) -> x.runs(s)),
        new SetCall(45, "longestRun", NO_SET, (x, s) -> x.longestRun(s)),
        new SetCall(46, "areEqual", NO_SET, (x, s) -> x.areEqual(s, 2)),
        new SetCall(47, "meet", NO_SET, (x, s) -> x.meet(s, 2)),
        new SetCall(48, "isWithin", NO_SET, (x, s) -> x.isWithin(s, 2)),
        new SetCall(49, "unionCount", NO_SET, (x, s) -> x.unionCount(s, 2)),
        new SetCall(50, "distance", NO_SET, (x, s) -> x.distance(s, 2)),
        new SetCall(51, "firstCommon", NO_SET, (x, s) -> x.firstCommon(s, 2)),
        new SetCall(52, "write", NO_SET, (x, s) -> x.write(s)),
        new SetCall(56, "share", NO_SET + ", or below is out of range", (x, s) -> x.share(s, 50), (x, s) -> x.share(s, 0)),
    };

    private static final PairCall[] PAIR_CALLS = {
        new PairCall(17, "intersect", (x, s, o) -> x.intersect(s, o)),
        new PairCall(18, "unite", (x, s, o) -> x.unite(s, o)),
        new PairCall(19, "differ", (x, s, o) -> x.differ(s, o)),
        new PairCall(20, "subtract", (x, s, o) -> x.subtract(s, o)),
        new PairCall(21, "copy", (x, s, o) -> x.copy(s, o)),
        new PairCall(22, "takePart", (x, s, o) -> x.takePart(s, o, 1, 600),
            (x, s, o) -> x.takePart(s, o, 6, 5), (x, s, o) -> x.takePart(s, o, -1, -1)),
        new PairCall(46, "areEqual", (x, s, o) -> x.areEqual(s, o)),
        new PairCall(47, "meet", (x, s, o) -> x.meet(s, o)),
        new PairCall(48, "isWithin", (x, s, o) -> x.isWithin(s, o)),
        new PairCall(49, "unionCount", (x, s, o) -> x.unionCount(s, o)),
        new PairCall(50, "distance", (x, s, o) -> x.distance(s, o)),
        new PairCall(51, "firstCommon", (x, s, o) -> x.firstCommon(s, o)),
    };

    /** Calls that answer how many members there are afterwards: none, all, one, and as many as ahead of it among them. */
    private static final SetCall[] COUNTING_CALLS = {
        new SetCall(11, "addRange", "", (x, s) -> x.addRange(s, 5, 70), (x, s) -> x.addRange(s, 0, 0),
            (x, s) -> x.addRange(s, 0, 1), (x, s) -> x.addRange(s, 1023, 1024), (x, s) -> x.addRange(s, 0, 1024)),
        new SetCall(12, "removeRange", "", (x, s) -> x.removeRange(s, 5, 70), (x, s) -> x.removeRange(s, 0, 0),
            (x, s) -> x.removeRange(s, 0, 1), (x, s) -> x.removeRange(s, 1023, MAX), (x, s) -> x.removeRange(s, 0, 1024)),
        new SetCall(13, "putRange", "", (x, s) -> x.putRange(s, 5, 70, false), (x, s) -> x.putRange(s, 5, 70, true),
            (x, s) -> x.putRange(s, 9, 9, true), (x, s) -> x.putRange(s, 9, 9, false),
            (x, s) -> x.putRange(s, 0, 1024, false), (x, s) -> x.putRange(s, 0, 1024, true)),
        new SetCall(14, "flipRange", "", (x, s) -> x.flipRange(s, 5, 70), (x, s) -> x.flipRange(s, 1024, 1024),
            (x, s) -> x.flipRange(s, 1023, 1024), (x, s) -> x.flipRange(s, 0, 1024)),
        new SetCall(17, "intersect", "", (x, s) -> x.intersect(s, 2), (x, s) -> x.intersect(s, s),
            (x, s) -> x.intersect(s, 3), (x, s) -> x.intersect(s, 7)),
        new SetCall(18, "unite", "", (x, s) -> x.unite(s, 2), (x, s) -> x.unite(s, s),
            (x, s) -> x.unite(s, 3), (x, s) -> x.unite(s, 7)),
        new SetCall(19, "differ", "", (x, s) -> x.differ(s, 2), (x, s) -> x.differ(s, s),
            (x, s) -> x.differ(s, 3), (x, s) -> x.differ(s, 7)),
        new SetCall(20, "subtract", "", (x, s) -> x.subtract(s, 2), (x, s) -> x.subtract(s, s),
            (x, s) -> x.subtract(s, 3), (x, s) -> x.subtract(s, 7)),
        new SetCall(21, "copy", "", (x, s) -> x.copy(s, 2), (x, s) -> x.copy(s, s),
            (x, s) -> x.copy(s, 3), (x, s) -> x.copy(s, 7)),
        new SetCall(22, "takePart", "", (x, s) -> x.takePart(s, 2, 5, 70), (x, s) -> x.takePart(s, s, 1, 1024),
            (x, s) -> x.takePart(s, 3, 0, MAX), (x, s) -> x.takePart(s, 3, 9, 9), (x, s) -> x.takePart(s, 7, 0, MAX)),
        new SetCall(23, "shift", "", (x, s) -> x.shift(s, 1), (x, s) -> x.shift(s, -1), (x, s) -> x.shift(s, 0),
            (x, s) -> x.shift(s, 1023), (x, s) -> x.shift(s, -1023)),
        new SetCall(24, "sieve", "", (x, s) -> x.sieve(s, 0), (x, s) -> x.sieve(s, 1), (x, s) -> x.sieve(s, 2),
            (x, s) -> x.sieve(s, 3), (x, s) -> x.sieve(s, 1024)),
    };

    private GeneralEdges(Sentences sentences) {
        this.sentences = sentences;
    }

    static void check(Sentences sentences) {
        GeneralEdges edges = new GeneralEdges(sentences);
        for (SetCall call : SET_CALLS) {
            edges.serveEightSets(call);
            edges.refuseOtherSets(call);
        }
        for (PairCall call : PAIR_CALLS) {
            edges.serveEightOthers(call);
            edges.refuseOtherOthers(call);
        }
        for (SetCall call : COUNTING_CALLS) {
            edges.answerMembersAfterwards(call);
        }
    }

    private static NumberSetDesk desk() {
        NumberSetDesk desk = Desks.different();
        Checks.type(desk, "A\u0080");
        return desk;
    }

    /** A call does to each set, and answers, what it does to a copy of it, and leaves the other sets. */
    private void serveEightSets(SetCall call) {
        sentences.says(call.promise, "- `set`: 0 to 7");
        for (int set = 0; set < Desks.SETS; set++) {
            int spare = set == 7 ? 6 : 7;
            NumberSetDesk desk = desk();
            NumberSetDesk twin = desk();
            twin.copy(spare, set);
            String name = call.name + "() of set " + set;
            String answer = String.valueOf(call.call.on(twin, spare));
            sentences.due(name, answer, String.valueOf(call.call.on(desk, set)));
            sentences.due(name + " leaves its set", Desks.members(twin, spare), Desks.members(desk, set));
            sentences.due(name + " leaves the other sets", Desks.othersThan(desk(), set), Desks.othersThan(desk, set));
        }
    }

    private void refuseOtherSets(SetCall call) {
        for (int set : Desks.NO_SETS) {
            String name = call.name + "() of set " + set;
            sentences.says(call.promise, call.throwing);
            sentences.refusesArgument(name, x -> call.call.on(x, set));
            for (OnSet wrong : call.furtherWrong) {
                sentences.refusesArgument(name + " and something else wrong", x -> wrong.on(x, set));
            }
            sentences.says("Section 5", "A set that is not 0 to 7 causes an IllegalArgumentException.");
            sentences.refusesArgument(name, x -> call.call.on(x, set));
            sentences.says("Section 5", "If several exceptions apply to a call, the one that is listed first is thrown.");
            for (OnSet wrong : call.furtherWrong) {
                sentences.refusesArgument(name + " and something else wrong", x -> wrong.on(x, set));
            }
        }
    }

    private void serveEightOthers(PairCall call) {
        sentences.says(call.promise, call.promise == 21 ? "- `other`: 0 to 7, which is copied" : "- `other`: 0 to 7, perhaps the same");
        for (int set : new int[] {4, 2}) {
            for (int other = 0; other < Desks.SETS; other++) {
                int spare = other == 7 ? 6 : 7;
                NumberSetDesk desk = desk();
                NumberSetDesk twin = desk();
                twin.copy(spare, other);
                String name = call.name + "() of " + set + " with " + other;
                String answer = String.valueOf(call.call.on(twin, set, spare));
                sentences.due(name, answer, String.valueOf(call.call.on(desk, set, other)));
                sentences.due(name + " leaves its set", Desks.members(twin, set), Desks.members(desk, set));
                sentences.due(name + " leaves the other sets", Desks.othersThan(desk(), set), Desks.othersThan(desk, set));
            }
        }
    }

    private void refuseOtherOthers(PairCall call) {
        for (int other : Desks.NO_SETS) {
            String name = call.name + "() with set " + other;
            sentences.says(call.promise, NO_SET);
            sentences.refusesArgument(name, x -> call.call.on(x, 4, other));
            sentences.refusesArgument(name + " of such a set", x -> call.call.on(x, other, other));
            sentences.says("Section 5", "A set that is not 0 to 7 causes an IllegalArgumentException.");
            sentences.refusesArgument(name, x -> call.call.on(x, 0, other));
            sentences.says("Section 5", "If several exceptions apply to a call, the one that is listed first is thrown.");
            for (OnPair wrong : call.furtherWrong) {
                sentences.refusesArgument(name + " and something else wrong", x -> wrong.on(x, 4, other));
                sentences.refusesArgument(name + " of such a set and something else wrong", x -> wrong.on(x, other, other));
            }
        }
    }

    private void answerMembersAfterwards(SetCall call) {
        sentences.says(call.promise, "Returns the number of its members afterwards.");
        for (int set = 0; set < Desks.SETS; set++) {
            answerMembersAfterwards(call.name + "() of set " + set, call.call, set);
            for (OnSet one : call.furtherWrong) {
                answerMembersAfterwards(call.name + "() of set " + set, one, set);
            }
        }
    }

    private void answerMembersAfterwards(String name, OnSet call, int set) {
        NumberSetDesk desk = desk();
        Object answer = call.on(desk, set);
        int members = 0;
        for (int k = 0; k < desk.wordCount(set); k++) {
            members += Long.bitCount(desk.wordAt(set, k));
        }
        sentences.due(name, members, answer);
        sentences.due(name + ", then count()", members, desk.count(set));
    }
}
