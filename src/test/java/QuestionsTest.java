/** Promises 32 to 51. */
public final class QuestionsTest {
    private static final Class<IndexOutOfBoundsException> INDEX = IndexOutOfBoundsException.class;
    private static final int NONE = NumberSetDesk.NONE;
    private static final int MIN = Integer.MIN_VALUE;
    private static final int MAX = Integer.MAX_VALUE;
    private static final Checks CHECKS = new Checks("QuestionsTest");

    public static void main(String[] args) {
        promise32Has();
        promise33To36CountAndLength();
        promise34CountIn();
        promise37IsRoomy();
        promise38Next();
        promise39NextMissing();
        promise40Previous();
        promise41PreviousMissing();
        promise42MemberAt();
        promise43Sum();
        promise44And45Runs();
        promise46AreEqual();
        promise47Meet();
        promise48IsWithin();
        promise49To51Pairs();
        changesNothing();
        CHECKS.end();
    }

    private interface IndexCall {
        long on(NumberSetDesk desk, int set, int index);
    }

    private interface PairCall {
        Object on(NumberSetDesk desk, int set, int other);
    }

    private static void refusesIndexes(String name, IndexCall call, int... indexes) {
        for (int index : indexes) {
            NumberSetDesk desk = new NumberSetDesk();
            CHECKS.refused(name + "(0, " + index + ")", desk, INDEX, 1, () -> call.on(desk, 0, index));
            CHECKS.noSuchSet(name + "(.., " + index + ")", (x, set) -> call.on(x, set, index));
        }
        CHECKS.noSuchSet(name + "(.., 5)", (x, set) -> call.on(x, set, 5));
    }

    private static void refusesSets(String name, PairCall call) {
        CHECKS.noSuchSet(name + " of a set", (x, set) -> call.on(x, set, 1));
        CHECKS.noSuchSet(name + " with a set", (x, other) -> call.on(x, 0, other));
        CHECKS.noSuchSet(name + " of both", (x, both) -> call.on(x, both, both));
    }

    private static NumberSetDesk fullAt3() {
        NumberSetDesk desk = new NumberSetDesk();
        desk.addRange(3, 0, 1024);
        return desk;
    }

    private static void promise32Has() {
        NumberSetDesk desk = new NumberSetDesk();
        desk.add(2, 0);
        desk.add(2, 1023);
        CHECKS.due("has(2, 0)", true, desk.has(2, 0));
        CHECKS.due("has(2, 64)", true, desk.has(2, 64));
        CHECKS.due("has(2, 65)", false, desk.has(2, 65));
        CHECKS.due("has(2, 1023)", true, desk.has(2, 1023));
        CHECKS.due("has(2, 1024)", false, desk.has(2, 1024));
        CHECKS.due("has(2, 2047)", false, desk.has(2, 2047));
        CHECKS.due("has(2, MAX)", false, desk.has(2, MAX));
        refusesIndexes("has", (x, set, index) -> x.has(set, index) ? 1 : 0, -1, MIN);
    }

    private static void promise33To36CountAndLength() {
        NumberSetDesk desk = fullAt3();
        CHECKS.due("count(2)", 11, desk.count(2));
        CHECKS.due("count(3)", 1024, desk.count(3));
        CHECKS.due("count(4)", 0, desk.count(4));
        CHECKS.due("length(2)", 129, desk.length(2));
        CHECKS.due("length(3)", 1024, desk.length(3));
        CHECKS.due("length(4)", 0, desk.length(4));
        CHECKS.due("isEmpty(2)", false, desk.isEmpty(2));
        CHECKS.due("isEmpty(3)", false, desk.isEmpty(3));
        CHECKS.due("isEmpty(4)", true, desk.isEmpty(4));
        desk.add(4, 0);
        CHECKS.due("length(4) of 0", 1, desk.length(4));
        CHECKS.due("isEmpty(4) of 0", false, desk.isEmpty(4));
        desk.add(4, 1023);
        CHECKS.due("length(4) of 1023", 1024, desk.length(4));
        desk.remove(4, 1023);
        CHECKS.due("length(4) after remove()", 1, desk.length(4));
        CHECKS.noSuchSet("count()", NumberSetDesk::count);
        CHECKS.noSuchSet("length()", NumberSetDesk::length);
        CHECKS.noSuchSet("isEmpty()", NumberSetDesk::isEmpty);
    }

    private static void promise34CountIn() {
        NumberSetDesk desk = fullAt3();
        CHECKS.due("countIn(2, 5, 64)", 5, desk.countIn(2, 5, 64));
        CHECKS.due("countIn(2, 5, 65)", 6, desk.countIn(2, 5, 65));
        CHECKS.due("countIn(2, 5, 5)", 0, desk.countIn(2, 5, 5));
        CHECKS.due("countIn(2, 0, MAX)", 11, desk.countIn(2, 0, MAX));
        CHECKS.due("countIn(2, 128, 5000)", 1, desk.countIn(2, 128, 5000));
        CHECKS.due("countIn(3, 1000, 1030)", 24, desk.countIn(3, 1000, 1030));
        CHECKS.due("countIn(3, 63, 129)", 66, desk.countIn(3, 63, 129));
        CHECKS.due("countIn(3, 1024, MAX)", 0, desk.countIn(3, 1024, MAX));
        CHECKS.due("countIn(3, MAX, MAX)", 0, desk.countIn(3, MAX, MAX));
        int[][] noRanges = {{-1, 5}, {-1, -1}, {5, -1}, {6, 5}, {MIN, 0}, {MAX, 0}};
        for (int[] range : noRanges) {
            CHECKS.refused("countIn(0, " + range[0] + ", " + range[1] + ")", desk, INDEX, 1,
                    () -> desk.countIn(0, range[0], range[1]));
        }
        CHECKS.noSuchSet("countIn()", (x, set) -> x.countIn(set, 1, 2));
        CHECKS.noSuchSet("countIn() of no range", (x, set) -> x.countIn(set, 2, 1));
    }

    private static void promise37IsRoomy() {
        NumberSetDesk desk = fullAt3();
        for (int set = 0; set < 8; set++) {
            CHECKS.due("isRoomy(" + set + ")", true, desk.isRoomy(set));
        }
        desk.renew(3, 0);
        CHECKS.due("isRoomy(3) made for 0", true, desk.isRoomy(3));
        CHECKS.noSuchSet("isRoomy()", NumberSetDesk::isRoomy);
    }

    private static void promise38Next() {
        NumberSetDesk desk = fullAt3();
        CHECKS.due("next(2, 0)", 1, desk.next(2, 0));
        CHECKS.due("next(2, 1)", 1, desk.next(2, 1));
        CHECKS.due("next(2, 22)", 63, desk.next(2, 22));
        CHECKS.due("next(2, 64)", 64, desk.next(2, 64));
        CHECKS.due("next(2, 65)", 127, desk.next(2, 65));
        CHECKS.due("next(2, 128)", 128, desk.next(2, 128));
        CHECKS.due("next(2, 129)", NONE, desk.next(2, 129));
        CHECKS.due("next(3, 1023)", 1023, desk.next(3, 1023));
        CHECKS.due("next(3, 1024)", NONE, desk.next(3, 1024));
        CHECKS.due("next(3, MAX)", NONE, desk.next(3, MAX));
        CHECKS.due("next(4, 0)", NONE, desk.next(4, 0));
        refusesIndexes("next", NumberSetDesk::next, -1, MIN);
    }

    private static void promise39NextMissing() {
        NumberSetDesk desk = fullAt3();
        CHECKS.due("nextMissing(0, 0)", 10, desk.nextMissing(0, 0));
        CHECKS.due("nextMissing(0, 9)", 10, desk.nextMissing(0, 9));
        CHECKS.due("nextMissing(0, 10)", 10, desk.nextMissing(0, 10));
        CHECKS.due("nextMissing(2, 63)", 65, desk.nextMissing(2, 63));
        CHECKS.due("nextMissing(0, 1023)", 1023, desk.nextMissing(0, 1023));
        CHECKS.due("nextMissing(3, 0)", 1024, desk.nextMissing(3, 0));
        CHECKS.due("nextMissing(3, 1023)", 1024, desk.nextMissing(3, 1023));
        CHECKS.due("nextMissing(3, 1024)", 1024, desk.nextMissing(3, 1024));
        CHECKS.due("nextMissing(3, 1025)", 1025, desk.nextMissing(3, 1025));
        CHECKS.due("nextMissing(3, MAX)", MAX, desk.nextMissing(3, MAX));
        refusesIndexes("nextMissing", NumberSetDesk::nextMissing, -1, MIN);
    }

    private static void promise40Previous() {
        NumberSetDesk desk = fullAt3();
        CHECKS.due("previous(2, 62)", 21, desk.previous(2, 62));
        CHECKS.due("previous(2, 63)", 63, desk.previous(2, 63));
        CHECKS.due("previous(2, 126)", 64, desk.previous(2, 126));
        CHECKS.due("previous(2, 1)", 1, desk.previous(2, 1));
        CHECKS.due("previous(2, 0)", NONE, desk.previous(2, 0));
        CHECKS.due("previous(0, 0)", 0, desk.previous(0, 0));
        CHECKS.due("previous(0, -1)", NONE, desk.previous(0, -1));
        CHECKS.due("previous(3, 1023)", 1023, desk.previous(3, 1023));
        CHECKS.due("previous(3, 1024)", 1023, desk.previous(3, 1024));
        CHECKS.due("previous(3, MAX)", 1023, desk.previous(3, MAX));
        CHECKS.due("previous(4, MAX)", NONE, desk.previous(4, MAX));
        CHECKS.due("refusals()", 0, desk.refusals());
        refusesIndexes("previous", NumberSetDesk::previous, -2, MIN);
    }

    private static void promise41PreviousMissing() {
        NumberSetDesk desk = fullAt3();
        CHECKS.due("previousMissing(0, 9)", NONE, desk.previousMissing(0, 9));
        CHECKS.due("previousMissing(0, 10)", 10, desk.previousMissing(0, 10));
        CHECKS.due("previousMissing(2, 64)", 62, desk.previousMissing(2, 64));
        CHECKS.due("previousMissing(2, 0)", 0, desk.previousMissing(2, 0));
        CHECKS.due("previousMissing(4, -1)", NONE, desk.previousMissing(4, -1));
        CHECKS.due("previousMissing(4, 1023)", 1023, desk.previousMissing(4, 1023));
        CHECKS.due("previousMissing(3, 1023)", NONE, desk.previousMissing(3, 1023));
        CHECKS.due("previousMissing(3, 1024)", 1024, desk.previousMissing(3, 1024));
        CHECKS.due("previousMissing(3, MAX)", MAX, desk.previousMissing(3, MAX));
        CHECKS.due("refusals()", 0, desk.refusals());
        refusesIndexes("previousMissing", NumberSetDesk::previousMissing, -2, MIN);
    }

    private static void promise42MemberAt() {
        NumberSetDesk desk = fullAt3();
        CHECKS.due("memberAt(2, 0)", 1, desk.memberAt(2, 0));
        CHECKS.due("memberAt(2, 3)", 5, desk.memberAt(2, 3));
        CHECKS.due("memberAt(2, 10)", 128, desk.memberAt(2, 10));
        CHECKS.due("memberAt(2, 11)", NONE, desk.memberAt(2, 11));
        CHECKS.due("memberAt(3, 1023)", 1023, desk.memberAt(3, 1023));
        CHECKS.due("memberAt(3, 1024)", NONE, desk.memberAt(3, 1024));
        for (int place : new int[] {-1, MIN, MAX}) {
            CHECKS.due("memberAt(0, " + place + ")", NONE, desk.memberAt(0, place));
        }
        CHECKS.due("memberAt(4, 0)", NONE, desk.memberAt(4, 0));
        CHECKS.due("refusals()", 0, desk.refusals());
        CHECKS.noSuchSet("memberAt(.., 0)", (x, set) -> x.memberAt(set, 0));
        CHECKS.noSuchSet("memberAt(.., -1)", (x, set) -> x.memberAt(set, -1));
    }

    private static void promise43Sum() {
        NumberSetDesk desk = fullAt3();
        CHECKS.due("sum(0)", 45, desk.sum(0));
        CHECKS.due("sum(2)", 435, desk.sum(2));
        CHECKS.due("sum(3)", 523776, desk.sum(3));
        CHECKS.due("sum(4)", 0, desk.sum(4));
        CHECKS.noSuchSet("sum()", NumberSetDesk::sum);
    }

    private static void promise44And45Runs() {
        NumberSetDesk desk = fullAt3();
        CHECKS.due("runs(0)", 1, desk.runs(0));
        CHECKS.due("runs(1)", 10, desk.runs(1));
        CHECKS.due("runs(2)", 7, desk.runs(2));
        CHECKS.due("runs(3)", 1, desk.runs(3));
        CHECKS.due("runs(4)", 0, desk.runs(4));
        CHECKS.due("longestRun(0)", 0, desk.longestRun(0));
        CHECKS.due("longestRun(1)", 0, desk.longestRun(1));
        CHECKS.due("longestRun(2)", 1, desk.longestRun(2));
        CHECKS.due("longestRun(3)", 0, desk.longestRun(3));
        CHECKS.due("longestRun(4)", NONE, desk.longestRun(4));
        desk.addRange(5, 10, 12);
        desk.addRange(5, 62, 66);
        desk.addRange(5, 1020, 1024);
        CHECKS.due("runs(5)", 3, desk.runs(5));
        CHECKS.due("longestRun(5)", 62, desk.longestRun(5));
        desk.add(5, 1019);
        CHECKS.due("longestRun(5) at the end", 1019, desk.longestRun(5));
        desk.renew(5, 0);
        desk.add(5, 1023);
        CHECKS.due("runs(5) of 1023", 1, desk.runs(5));
        CHECKS.due("longestRun(5) of 1023", 1023, desk.longestRun(5));
        CHECKS.noSuchSet("runs()", NumberSetDesk::runs);
        CHECKS.noSuchSet("longestRun()", NumberSetDesk::longestRun);
    }

    private static void promise46AreEqual() {
        NumberSetDesk desk = new NumberSetDesk();
        CHECKS.due("areEqual(0, 1)", false, desk.areEqual(0, 1));
        CHECKS.due("areEqual(0, 0)", true, desk.areEqual(0, 0));
        CHECKS.due("areEqual(3, 4)", true, desk.areEqual(3, 4));
        CHECKS.due("areEqual(0, 3)", false, desk.areEqual(0, 3));
        desk.copy(3, 0);
        CHECKS.due("areEqual(0, 3) of a copy", true, desk.areEqual(0, 3));
        desk.add(3, 1023);
        CHECKS.due("areEqual(0, 3) of more", false, desk.areEqual(0, 3));
        CHECKS.due("areEqual(3, 0) of less", false, desk.areEqual(3, 0));
        desk.remove(3, 1023);
        CHECKS.due("areEqual(3, 0) of as many words", true, desk.areEqual(3, 0));
        refusesSets("areEqual()", NumberSetDesk::areEqual);
    }

    private static void promise47Meet() {
        NumberSetDesk desk = new NumberSetDesk();
        CHECKS.due("meet(1, 2)", true, desk.meet(1, 2));
        CHECKS.due("meet(0, 3)", false, desk.meet(0, 3));
        CHECKS.due("meet(0, 0)", true, desk.meet(0, 0));
        CHECKS.due("meet(3, 3)", false, desk.meet(3, 3));
        desk.add(3, 128);
        CHECKS.due("meet(3, 2)", true, desk.meet(3, 2));
        CHECKS.due("meet(3, 1)", false, desk.meet(3, 1));
        refusesSets("meet()", NumberSetDesk::meet);
    }

    private static void promise48IsWithin() {
        NumberSetDesk desk = new NumberSetDesk();
        CHECKS.due("isWithin(0, 1)", false, desk.isWithin(0, 1));
        CHECKS.due("isWithin(3, 0)", true, desk.isWithin(3, 0));
        CHECKS.due("isWithin(0, 3)", false, desk.isWithin(0, 3));
        CHECKS.due("isWithin(3, 3)", true, desk.isWithin(3, 3));
        CHECKS.due("isWithin(0, 0)", true, desk.isWithin(0, 0));
        desk.addRange(3, 3, 6);
        CHECKS.due("isWithin(3, 0) of a part", true, desk.isWithin(3, 0));
        CHECKS.due("isWithin(0, 3) of a part", false, desk.isWithin(0, 3));
        desk.add(3, 1000);
        CHECKS.due("isWithin(3, 0) of a stranger", false, desk.isWithin(3, 0));
        refusesSets("isWithin()", NumberSetDesk::isWithin);
    }

    private static void promise49To51Pairs() {
        NumberSetDesk desk = fullAt3();
        CHECKS.due("unionCount(0, 1)", 15, desk.unionCount(0, 1));
        CHECKS.due("unionCount(2, 2)", 11, desk.unionCount(2, 2));
        CHECKS.due("unionCount(2, 3)", 1024, desk.unionCount(2, 3));
        CHECKS.due("unionCount(4, 5)", 0, desk.unionCount(4, 5));
        CHECKS.due("distance(0, 1)", 10, desk.distance(0, 1));
        CHECKS.due("distance(2, 2)", 0, desk.distance(2, 2));
        CHECKS.due("distance(2, 3)", 1013, desk.distance(2, 3));
        CHECKS.due("distance(4, 2)", 11, desk.distance(4, 2));
        CHECKS.due("firstCommon(1, 2)", 2, desk.firstCommon(1, 2));
        CHECKS.due("firstCommon(0, 1)", 0, desk.firstCommon(0, 1));
        CHECKS.due("firstCommon(2, 4)", NONE, desk.firstCommon(2, 4));
        CHECKS.due("firstCommon(2, 2)", 1, desk.firstCommon(2, 2));
        desk.add(5, 1023);
        CHECKS.due("firstCommon(5, 3)", 1023, desk.firstCommon(5, 3));
        refusesSets("unionCount()", NumberSetDesk::unionCount);
        refusesSets("distance()", NumberSetDesk::distance);
        refusesSets("firstCommon()", NumberSetDesk::firstCommon);
    }

    private static void changesNothing() {
        NumberSetDesk desk = fullAt3();
        desk.write(2);
        Checks.type(desk, "a+1;");
        String before = Checks.stateOf(desk);
        desk.has(2, 5);
        desk.countIn(2, 5, 70);
        desk.next(2, 5);
        desk.nextMissing(3, 5);
        desk.previous(2, 500);
        desk.previousMissing(3, 500);
        desk.memberAt(2, 5);
        desk.sum(2);
        desk.runs(2);
        desk.longestRun(2);
        desk.areEqual(2, 1);
        desk.meet(2, 1);
        desk.isWithin(2, 1);
        desk.unionCount(2, 1);
        desk.distance(2, 1);
        desk.firstCommon(2, 1);
        desk.fingerprint(2);
        desk.byteAt(2, 3);
        desk.isRoomy(2);
        desk.meanCount();
        desk.share(2, 500);
        desk.errors();
        CHECKS.due("the questions leave", before, Checks.stateOf(desk));
    }
}
